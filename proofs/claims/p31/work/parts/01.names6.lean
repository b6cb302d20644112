theorem dX12_number_0 : decode cX12_number 0 = .ok (.aload_n 0, 1) := by decide +kernel
theorem dX12_number_1 : decode cX12_number 1 = .ok (.invokevirtual 159, 3) := by decide +kernel
theorem dX12_number_4 : decode cX12_number 4 = .ok (.ifCond .ne 7, 3) := by decide +kernel
theorem dX12_number_7 : decode cX12_number 7 = .ok (.ldc2_w 61, 3) := by decide +kernel
theorem dX12_number_10 : decode cX12_number 10 = .ok (.lreturn, 1) := by decide +kernel
theorem dX12_number_11 : decode cX12_number 11 = .ok (.aload_n 0, 1) := by decide +kernel
theorem dX12_number_12 : decode cX12_number 12 = .ok (.iconst 1, 1) := by decide +kernel
theorem dX12_number_13 : decode cX12_number 13 = .ok (.iconst (-1), 1) := by decide +kernel
theorem dX12_number_14 : decode cX12_number 14 = .ok (.iconst (-1), 1) := by decide +kernel
theorem dX12_number_15 : decode cX12_number 15 = .ok (.invokevirtual 146, 3) := by decide +kernel
theorem dX12_number_18 : decode cX12_number 18 = .ok (.iconst 0, 1) := by decide +kernel
theorem dX12_number_19 : decode cX12_number 19 = .ok (.istore_n 1, 1) := by decide +kernel
theorem dX12_number_20 : decode cX12_number 20 = .ok (.bipush 12, 2) := by decide +kernel
theorem dX12_number_22 : decode cX12_number 22 = .ok (.istore_n 2, 1) := by decide +kernel
theorem dX12_number_23 : decode cX12_number 23 = .ok (.lconst 0, 1) := by decide +kernel
theorem dX12_number_24 : decode cX12_number 24 = .ok (.lstore_n 3, 1) := by decide +kernel
theorem dX12_number_25 : decode cX12_number 25 = .ok (.iconst 0, 1) := by decide +kernel
theorem dX12_number_26 : decode cX12_number 26 = .ok (.istore 5, 2) := by decide +kernel
theorem dX12_number_28 : decode cX12_number 28 = .ok (.iload 5, 2) := by decide +kernel
theorem dX12_number_30 : decode cX12_number 30 = .ok (.aload_n 0, 1) := by decide +kernel
theorem dX12_number_31 : decode cX12_number 31 = .ok (.getfield 153, 3) := by decide +kernel
theorem dX12_number_34 : decode cX12_number 34 = .ok (.if_icmp .ge 105, 3) := by decide +kernel
theorem dX12_number_37 : decode cX12_number 37 = .ok (.aload_n 0, 1) := by decide +kernel
theorem dX12_number_38 : decode cX12_number 38 = .ok (.aload_n 0, 1) := by decide +kernel
theorem dX12_number_39 : decode cX12_number 39 = .ok (.getfield 16, 3) := by decide +kernel
theorem dX12_number_42 : decode cX12_number 42 = .ok (.iload 5, 2) := by decide +kernel
theorem dX12_number_44 : decode cX12_number 44 = .ok (.iaload, 1) := by decide +kernel
theorem dX12_number_45 : decode cX12_number 45 = .ok (.iload_n 1, 1) := by decide +kernel
theorem dX12_number_46 : decode cX12_number 46 = .ok (.iload_n 2, 1) := by decide +kernel
theorem dX12_number_47 : decode cX12_number 47 = .ok (.invokevirtual 156, 3) := by decide +kernel
theorem dX12_number_50 : decode cX12_number 50 = .ok (.ifCond .ne 7, 3) := by decide +kernel
theorem dX12_number_53 : decode cX12_number 53 = .ok (.ldc2_w 112, 3) := by decide +kernel
theorem dX12_number_56 : decode cX12_number 56 = .ok (.lreturn, 1) := by decide +kernel
theorem dX12_number_57 : decode cX12_number 57 = .ok (.iconst 0, 1) := by decide +kernel
theorem dX12_number_58 : decode cX12_number 58 = .ok (.istore 6, 2) := by decide +kernel
theorem dX12_number_60 : decode cX12_number 60 = .ok (.iload 6, 2) := by decide +kernel
theorem dX12_number_62 : decode cX12_number 62 = .ok (.aload_n 0, 1) := by decide +kernel
theorem dX12_number_63 : decode cX12_number 63 = .ok (.getfield 16, 3) := by decide +kernel
theorem dX12_number_66 : decode cX12_number 66 = .ok (.iload 5, 2) := by decide +kernel
theorem dX12_number_68 : decode cX12_number 68 = .ok (.iaload, 1) := by decide +kernel
theorem dX12_number_69 : decode cX12_number 69 = .ok (.if_icmp .ge 44, 3) := by decide +kernel
theorem dX12_number_72 : decode cX12_number 72 = .ok (.lload_n 3, 1) := by decide +kernel
theorem dX12_number_73 : decode cX12_number 73 = .ok (.aload_n 0, 1) := by decide +kernel
theorem dX12_number_74 : decode cX12_number 74 = .ok (.iload 6, 2) := by decide +kernel
theorem dX12_number_76 : decode cX12_number 76 = .ok (.iload_n 1, 1) := by decide +kernel
theorem dX12_number_77 : decode cX12_number 77 = .ok (.iload_n 2, 1) := by decide +kernel
theorem dX12_number_78 : decode cX12_number 78 = .ok (.invokevirtual 156, 3) := by decide +kernel
theorem dX12_number_81 : decode cX12_number 81 = .ok (.ifCond .eq 23, 3) := by decide +kernel
theorem dX12_number_84 : decode cX12_number 84 = .ok (.aload_n 0, 1) := by decide +kernel
theorem dX12_number_85 : decode cX12_number 85 = .ok (.getfield 24, 3) := by decide +kernel
theorem dX12_number_88 : decode cX12_number 88 = .ok (.bipush 13, 2) := by decide +kernel
theorem dX12_number_90 : decode cX12_number 90 = .ok (.iload_n 1, 1) := by decide +kernel
theorem dX12_number_91 : decode cX12_number 91 = .ok (.iconst 1, 1) := by decide +kernel
theorem dX12_number_92 : decode cX12_number 92 = .ok (.iload 6, 2) := by decide +kernel
theorem dX12_number_94 : decode cX12_number 94 = .ok (.ishl, 1) := by decide +kernel
theorem dX12_number_95 : decode cX12_number 95 = .ok (.ior, 1) := by decide +kernel
theorem dX12_number_96 : decode cX12_number 96 = .ok (.imul, 1) := by decide +kernel
theorem dX12_number_97 : decode cX12_number 97 = .ok (.iload 6, 2) := by decide +kernel
theorem dX12_number_99 : decode cX12_number 99 = .ok (.iadd, 1) := by decide +kernel
theorem dX12_number_100 : decode cX12_number 100 = .ok (.laload, 1) := by decide +kernel
theorem dX12_number_101 : decode cX12_number 101 = .ok (.goto 4, 3) := by decide +kernel
theorem dX12_number_104 : decode cX12_number 104 = .ok (.lconst 0, 1) := by decide +kernel
theorem dX12_number_105 : decode cX12_number 105 = .ok (.ladd, 1) := by decide +kernel
theorem dX12_number_106 : decode cX12_number 106 = .ok (.lstore_n 3, 1) := by decide +kernel
theorem dX12_number_107 : decode cX12_number 107 = .ok (.iinc 6 1, 3) := by decide +kernel
theorem dX12_number_110 : decode cX12_number 110 = .ok (.goto (-50), 3) := by decide +kernel
theorem dX12_number_113 : decode cX12_number 113 = .ok (.iload_n 1, 1) := by decide +kernel
theorem dX12_number_114 : decode cX12_number 114 = .ok (.iconst 1, 1) := by decide +kernel
theorem dX12_number_115 : decode cX12_number 115 = .ok (.aload_n 0, 1) := by decide +kernel
theorem dX12_number_116 : decode cX12_number 116 = .ok (.getfield 16, 3) := by decide +kernel
theorem dX12_number_119 : decode cX12_number 119 = .ok (.iload 5, 2) := by decide +kernel
theorem dX12_number_121 : decode cX12_number 121 = .ok (.iaload, 1) := by decide +kernel
theorem dX12_number_122 : decode cX12_number 122 = .ok (.ishl, 1) := by decide +kernel
theorem dX12_number_123 : decode cX12_number 123 = .ok (.ior, 1) := by decide +kernel
theorem dX12_number_124 : decode cX12_number 124 = .ok (.istore_n 1, 1) := by decide +kernel
theorem dX12_number_125 : decode cX12_number 125 = .ok (.aload_n 0, 1) := by decide +kernel
theorem dX12_number_126 : decode cX12_number 126 = .ok (.getfield 16, 3) := by decide +kernel
theorem dX12_number_129 : decode cX12_number 129 = .ok (.iload 5, 2) := by decide +kernel
theorem dX12_number_131 : decode cX12_number 131 = .ok (.iaload, 1) := by decide +kernel
theorem dX12_number_132 : decode cX12_number 132 = .ok (.istore_n 2, 1) := by decide +kernel
theorem dX12_number_133 : decode cX12_number 133 = .ok (.iinc 5 1, 3) := by decide +kernel
theorem dX12_number_136 : decode cX12_number 136 = .ok (.goto (-108), 3) := by decide +kernel
theorem dX12_number_139 : decode cX12_number 139 = .ok (.aload_n 0, 1) := by decide +kernel
theorem dX12_number_140 : decode cX12_number 140 = .ok (.getfield 20, 3) := by decide +kernel
theorem dX12_number_143 : decode cX12_number 143 = .ok (.invokestatic 150, 3) := by decide +kernel
theorem dX12_number_146 : decode cX12_number 146 = .ok (.laload, 1) := by decide +kernel
theorem dX12_number_147 : decode cX12_number 147 = .ok (.ldc2_w 131, 3) := by decide +kernel
theorem dX12_number_150 : decode cX12_number 150 = .ok (.lcmp, 1) := by decide +kernel
theorem dX12_number_151 : decode cX12_number 151 = .ok (.ifCond .lt 9, 3) := by decide +kernel
theorem dX12_number_154 : decode cX12_number 154 = .ok (.ldc2_w 112, 3) := by decide +kernel
theorem dX12_number_157 : decode cX12_number 157 = .ok (.goto 4, 3) := by decide +kernel
theorem dX12_number_160 : decode cX12_number 160 = .ok (.lload_n 3, 1) := by decide +kernel
theorem dX12_number_161 : decode cX12_number 161 = .ok (.lreturn, 1) := by decide +kernel
set_option maxRecDepth 20000 in
set_option maxRecDepth 100000 in
theorem ggX12_sure_X12_isHen : GoodIn wsX12_sure wsX12_isHen := goodIn_r _ [11, 12, 13, 14, 10, 15, 16, 17, 18, 19, 71, 72, 73, 74, 75, 76, 77, 78, 79, 80, 81, 82, 83, 84, 85, 86, 87, 88] rfl (by decide +kernel)
set_option maxRecDepth 20000 in
theorem gX12_sure_X12_isHen : GoodIn wsX12_sure (wsV RX12 83 RX12 yX12_isHen wsX12_isHen) := goodIn_app (goodIn_of _ (by decide +kernel)) ggX12_sure_X12_isHen
set_option maxRecDepth 20000 in
set_option maxRecDepth 100000 in
theorem ggX12_sure_X12_counts : GoodIn wsX12_sure wsX12_counts := goodIn_r _ [23, 16, 7, 8, 9, 10, 11, 12, 13, 14, 15, 17, 18, 19, 24, 25, 26, 27, 71, 72, 73, 74, 75, 76, 77, 78, 79, 80, 81, 82, 83, 84, 85, 86, 87, 88] rfl (by decide +kernel)
set_option maxRecDepth 20000 in
theorem gX12_sure_X12_counts : GoodIn wsX12_sure (wsV RX12 109 RX12 yX12_counts wsX12_counts) := goodIn_app (goodIn_of _ (by decide +kernel)) ggX12_sure_X12_counts
set_option maxRecDepth 20000 in
set_option maxRecDepth 100000 in
theorem ggX12_sure_X12_fill : GoodIn wsX12_sure wsX12_fill := goodIn_r _ [31, 32, 33, 34, 2, 3, 35, 36, 37, 10, 38, 12, 13, 14, 15, 16, 20, 21, 22, 23, 7, 8, 9, 11, 17, 18, 19, 24, 25, 26, 27, 39, 40, 41, 42, 4, 43, 44, 45, 46, 47, 48, 49, 50, 51, 52, 53, 54, 55, 56, 57, 58, 59, 60, 61, 62, 63, 64, 65, 66, 67, 71, 72, 73, 74, 75, 76, 77, 78, 79, 80, 81, 82, 83, 84, 85, 86, 87, 88] rfl (by decide +kernel)
set_option maxRecDepth 20000 in
theorem gX12_sure_X12_fill : GoodIn wsX12_sure (wsV RX12 146 RX12 yX12_fill wsX12_fill) := goodIn_app (goodIn_of _ (by decide +kernel)) ggX12_sure_X12_fill
set_option maxRecDepth 20000 in
set_option maxRecDepth 100000 in
theorem ggX12_sure_X12_begun : GoodIn wsX12_sure wsX12_begun := goodIn_r _ [70] rfl (by decide +kernel)
set_option maxRecDepth 20000 in
theorem gX12_sure_X12_begun : GoodIn wsX12_sure (va_wsS RX12 150 yX12_begun wsX12_begun) := goodIn_app (goodIn_of _ (by decide +kernel)) ggX12_sure_X12_begun
theorem dX12_sure_0 : decode cX12_sure 0 = .ok (.aload_n 0, 1) := by decide +kernel
theorem dX12_sure_1 : decode cX12_sure 1 = .ok (.iload_n 1, 1) := by decide +kernel
theorem dX12_sure_2 : decode cX12_sure 2 = .ok (.invokevirtual 83, 3) := by decide +kernel
theorem dX12_sure_5 : decode cX12_sure 5 = .ok (.ifCond .eq 32, 3) := by decide +kernel
theorem dX12_sure_8 : decode cX12_sure 8 = .ok (.aload_n 0, 1) := by decide +kernel
theorem dX12_sure_9 : decode cX12_sure 9 = .ok (.iload_n 2, 1) := by decide +kernel
theorem dX12_sure_10 : decode cX12_sure 10 = .ok (.invokevirtual 83, 3) := by decide +kernel
theorem dX12_sure_13 : decode cX12_sure 13 = .ok (.ifCond .eq 24, 3) := by decide +kernel
theorem dX12_sure_16 : decode cX12_sure 16 = .ok (.iload_n 1, 1) := by decide +kernel
theorem dX12_sure_17 : decode cX12_sure 17 = .ok (.iload_n 2, 1) := by decide +kernel
theorem dX12_sure_18 : decode cX12_sure 18 = .ok (.if_icmp .eq 19, 3) := by decide +kernel
theorem dX12_sure_21 : decode cX12_sure 21 = .ok (.aload_n 0, 1) := by decide +kernel
theorem dX12_sure_22 : decode cX12_sure 22 = .ok (.iload_n 1, 1) := by decide +kernel
theorem dX12_sure_23 : decode cX12_sure 23 = .ok (.invokevirtual 109, 3) := by decide +kernel
theorem dX12_sure_26 : decode cX12_sure 26 = .ok (.ifCond .eq 11, 3) := by decide +kernel
theorem dX12_sure_29 : decode cX12_sure 29 = .ok (.aload_n 0, 1) := by decide +kernel
theorem dX12_sure_30 : decode cX12_sure 30 = .ok (.iload_n 2, 1) := by decide +kernel
theorem dX12_sure_31 : decode cX12_sure 31 = .ok (.invokevirtual 109, 3) := by decide +kernel
theorem dX12_sure_34 : decode cX12_sure 34 = .ok (.ifCond .ne 7, 3) := by decide +kernel
theorem dX12_sure_37 : decode cX12_sure 37 = .ok (.ldc2_w 72, 3) := by decide +kernel
theorem dX12_sure_40 : decode cX12_sure 40 = .ok (.lreturn, 1) := by decide +kernel
theorem dX12_sure_41 : decode cX12_sure 41 = .ok (.aload_n 0, 1) := by decide +kernel
theorem dX12_sure_42 : decode cX12_sure 42 = .ok (.iconst 1, 1) := by decide +kernel
theorem dX12_sure_43 : decode cX12_sure 43 = .ok (.iconst (-1), 1) := by decide +kernel
theorem dX12_sure_44 : decode cX12_sure 44 = .ok (.iconst (-1), 1) := by decide +kernel
theorem dX12_sure_45 : decode cX12_sure 45 = .ok (.invokevirtual 146, 3) := by decide +kernel
theorem dX12_sure_48 : decode cX12_sure 48 = .ok (.aload_n 0, 1) := by decide +kernel
theorem dX12_sure_49 : decode cX12_sure 49 = .ok (.getfield 20, 3) := by decide +kernel
theorem dX12_sure_52 : decode cX12_sure 52 = .ok (.invokestatic 150, 3) := by decide +kernel
theorem dX12_sure_55 : decode cX12_sure 55 = .ok (.laload, 1) := by decide +kernel
theorem dX12_sure_56 : decode cX12_sure 56 = .ok (.lstore_n 3, 1) := by decide +kernel
theorem dX12_sure_57 : decode cX12_sure 57 = .ok (.aload_n 0, 1) := by decide +kernel
theorem dX12_sure_58 : decode cX12_sure 58 = .ok (.getfield 24, 3) := by decide +kernel
theorem dX12_sure_61 : decode cX12_sure 61 = .ok (.invokestatic 150, 3) := by decide +kernel
theorem dX12_sure_64 : decode cX12_sure 64 = .ok (.laload, 1) := by decide +kernel
theorem dX12_sure_65 : decode cX12_sure 65 = .ok (.lstore 5, 2) := by decide +kernel
theorem dX12_sure_67 : decode cX12_sure 67 = .ok (.lload_n 3, 1) := by decide +kernel
theorem dX12_sure_68 : decode cX12_sure 68 = .ok (.ldc2_w 131, 3) := by decide +kernel
theorem dX12_sure_71 : decode cX12_sure 71 = .ok (.lcmp, 1) := by decide +kernel
theorem dX12_sure_72 : decode cX12_sure 72 = .ok (.ifCond .lt 7, 3) := by decide +kernel
theorem dX12_sure_75 : decode cX12_sure 75 = .ok (.ldc2_w 112, 3) := by decide +kernel
theorem dX12_sure_78 : decode cX12_sure 78 = .ok (.lreturn, 1) := by decide +kernel
theorem dX12_sure_79 : decode cX12_sure 79 = .ok (.aload_n 0, 1) := by decide +kernel
theorem dX12_sure_80 : decode cX12_sure 80 = .ok (.iconst 1, 1) := by decide +kernel
theorem dX12_sure_81 : decode cX12_sure 81 = .ok (.iload_n 1, 1) := by decide +kernel
theorem dX12_sure_82 : decode cX12_sure 82 = .ok (.iload_n 2, 1) := by decide +kernel
theorem dX12_sure_83 : decode cX12_sure 83 = .ok (.invokevirtual 146, 3) := by decide +kernel
theorem dX12_sure_86 : decode cX12_sure 86 = .ok (.aload_n 0, 1) := by decide +kernel
theorem dX12_sure_87 : decode cX12_sure 87 = .ok (.getfield 20, 3) := by decide +kernel
theorem dX12_sure_90 : decode cX12_sure 90 = .ok (.invokestatic 150, 3) := by decide +kernel
theorem dX12_sure_93 : decode cX12_sure 93 = .ok (.laload, 1) := by decide +kernel
theorem dX12_sure_94 : decode cX12_sure 94 = .ok (.lload_n 3, 1) := by decide +kernel
theorem dX12_sure_95 : decode cX12_sure 95 = .ok (.lcmp, 1) := by decide +kernel
theorem dX12_sure_96 : decode cX12_sure 96 = .ok (.ifCond .ne 14, 3) := by decide +kernel
theorem dX12_sure_99 : decode cX12_sure 99 = .ok (.aload_n 0, 1) := by decide +kernel
theorem dX12_sure_100 : decode cX12_sure 100 = .ok (.getfield 24, 3) := by decide +kernel
theorem dX12_sure_103 : decode cX12_sure 103 = .ok (.invokestatic 150, 3) := by decide +kernel
theorem dX12_sure_106 : decode cX12_sure 106 = .ok (.laload, 1) := by decide +kernel
theorem dX12_sure_107 : decode cX12_sure 107 = .ok (.goto 4, 3) := by decide +kernel
theorem dX12_sure_110 : decode cX12_sure 110 = .ok (.lconst 0, 1) := by decide +kernel
theorem dX12_sure_111 : decode cX12_sure 111 = .ok (.lstore 7, 2) := by decide +kernel
theorem dX12_sure_113 : decode cX12_sure 113 = .ok (.lload 7, 2) := by decide +kernel
theorem dX12_sure_115 : decode cX12_sure 115 = .ok (.lload 5, 2) := by decide +kernel
theorem dX12_sure_117 : decode cX12_sure 117 = .ok (.lcmp, 1) := by decide +kernel
theorem dX12_sure_118 : decode cX12_sure 118 = .ok (.ifCond .ne 7, 3) := by decide +kernel
theorem dX12_sure_121 : decode cX12_sure 121 = .ok (.lconst 1, 1) := by decide +kernel
theorem dX12_sure_122 : decode cX12_sure 122 = .ok (.goto 17, 3) := by decide +kernel
theorem dX12_sure_125 : decode cX12_sure 125 = .ok (.lload 7, 2) := by decide +kernel
theorem dX12_sure_127 : decode cX12_sure 127 = .ok (.lconst 0, 1) := by decide +kernel
theorem dX12_sure_128 : decode cX12_sure 128 = .ok (.lcmp, 1) := by decide +kernel
theorem dX12_sure_129 : decode cX12_sure 129 = .ok (.ifCond .ne 9, 3) := by decide +kernel
theorem dX12_sure_132 : decode cX12_sure 132 = .ok (.ldc2_w 163, 3) := by decide +kernel
theorem dX12_sure_135 : decode cX12_sure 135 = .ok (.goto 4, 3) := by decide +kernel
theorem dX12_sure_138 : decode cX12_sure 138 = .ok (.lconst 0, 1) := by decide +kernel
theorem dX12_sure_139 : decode cX12_sure 139 = .ok (.lreturn, 1) := by decide +kernel
set_option maxRecDepth 20000 in
set_option maxRecDepth 100000 in
theorem ggX12_findBlocks_X12_hens : GoodIn wsX12_findBlocks wsX12_hens := goodIn_r _ [6, 7, 32, 33, 34, 35, 36, 37, 38, 39, 40, 41, 42, 43, 44, 45, 46, 47, 48, 49] rfl (by decide +kernel)
set_option maxRecDepth 20000 in
theorem gX12_findBlocks_X12_hens : GoodIn wsX12_findBlocks (wsV RX12 53 RX12 yX12_hens wsX12_hens) := goodIn_app (goodIn_of _ (by decide +kernel)) ggX12_findBlocks_X12_hens
set_option maxRecDepth 20000 in
set_option maxRecDepth 100000 in
theorem ggX12_findBlocks_X12_kind : GoodIn wsX12_findBlocks wsX12_kind := goodIn_r _ [11, 7, 32, 33, 34, 35, 36, 37, 38, 39, 40, 41, 42, 43, 44, 45, 46, 47, 48, 49] rfl (by decide +kernel)
set_option maxRecDepth 20000 in
theorem gX12_findBlocks_X12_kind : GoodIn wsX12_findBlocks (wsV RX12 91 RX12 yX12_kind wsX12_kind) := goodIn_app (goodIn_of _ (by decide +kernel)) ggX12_findBlocks_X12_kind
set_option maxRecDepth 20000 in
set_option maxRecDepth 100000 in
theorem ggX12_findBlocks_X12_askedBy : GoodIn wsX12_findBlocks wsX12_askedBy := goodIn_r _ [15, 16, 8, 9, 10, 5, 11, 7, 17, 18, 19, 20, 21, 22, 23, 24, 25, 26, 27, 2, 3, 4, 6, 28, 29, 30, 31, 32, 33, 34, 35, 36, 37, 38, 39, 40, 41, 42, 43, 44, 45, 46, 47, 48, 49] rfl (by decide +kernel)
set_option maxRecDepth 20000 in
theorem gX12_findBlocks_X12_askedBy : GoodIn wsX12_findBlocks (wsV RX12 114 RX12 yX12_askedBy wsX12_askedBy) := goodIn_app (goodIn_of _ (by decide +kernel)) ggX12_findBlocks_X12_askedBy
theorem dX12_findBlocks_0 : decode cX12_findBlocks 0 = .ok (.iconst 0, 1) := by decide +kernel
theorem dX12_findBlocks_1 : decode cX12_findBlocks 1 = .ok (.istore_n 1, 1) := by decide +kernel
theorem dX12_findBlocks_2 : decode cX12_findBlocks 2 = .ok (.iload_n 1, 1) := by decide +kernel
theorem dX12_findBlocks_3 : decode cX12_findBlocks 3 = .ok (.bipush 12, 2) := by decide +kernel
theorem dX12_findBlocks_5 : decode cX12_findBlocks 5 = .ok (.if_icmp .ge 16, 3) := by decide +kernel
theorem dX12_findBlocks_8 : decode cX12_findBlocks 8 = .ok (.aload_n 0, 1) := by decide +kernel
theorem dX12_findBlocks_9 : decode cX12_findBlocks 9 = .ok (.getfield 31, 3) := by decide +kernel
theorem dX12_findBlocks_12 : decode cX12_findBlocks 12 = .ok (.iload_n 1, 1) := by decide +kernel
theorem dX12_findBlocks_13 : decode cX12_findBlocks 13 = .ok (.iload_n 1, 1) := by decide +kernel
theorem dX12_findBlocks_14 : decode cX12_findBlocks 14 = .ok (.iastore, 1) := by decide +kernel
theorem dX12_findBlocks_15 : decode cX12_findBlocks 15 = .ok (.iinc 1 1, 3) := by decide +kernel
theorem dX12_findBlocks_18 : decode cX12_findBlocks 18 = .ok (.goto (-16), 3) := by decide +kernel
theorem dX12_findBlocks_21 : decode cX12_findBlocks 21 = .ok (.iconst 0, 1) := by decide +kernel
theorem dX12_findBlocks_22 : decode cX12_findBlocks 22 = .ok (.istore_n 1, 1) := by decide +kernel
theorem dX12_findBlocks_23 : decode cX12_findBlocks 23 = .ok (.iload_n 1, 1) := by decide +kernel
theorem dX12_findBlocks_24 : decode cX12_findBlocks 24 = .ok (.bipush 12, 2) := by decide +kernel
theorem dX12_findBlocks_26 : decode cX12_findBlocks 26 = .ok (.if_icmp .ge 96, 3) := by decide +kernel
theorem dX12_findBlocks_29 : decode cX12_findBlocks 29 = .ok (.iconst 0, 1) := by decide +kernel
theorem dX12_findBlocks_30 : decode cX12_findBlocks 30 = .ok (.istore_n 2, 1) := by decide +kernel
theorem dX12_findBlocks_31 : decode cX12_findBlocks 31 = .ok (.iload_n 2, 1) := by decide +kernel
theorem dX12_findBlocks_32 : decode cX12_findBlocks 32 = .ok (.aload_n 0, 1) := by decide +kernel
theorem dX12_findBlocks_33 : decode cX12_findBlocks 33 = .ok (.invokevirtual 53, 3) := by decide +kernel
theorem dX12_findBlocks_36 : decode cX12_findBlocks 36 = .ok (.if_icmp .ge 80, 3) := by decide +kernel
theorem dX12_findBlocks_39 : decode cX12_findBlocks 39 = .ok (.aload_n 0, 1) := by decide +kernel
theorem dX12_findBlocks_40 : decode cX12_findBlocks 40 = .ok (.iload_n 2, 1) := by decide +kernel
theorem dX12_findBlocks_41 : decode cX12_findBlocks 41 = .ok (.invokevirtual 91, 3) := by decide +kernel
theorem dX12_findBlocks_44 : decode cX12_findBlocks 44 = .ok (.iconst 3, 1) := by decide +kernel
theorem dX12_findBlocks_45 : decode cX12_findBlocks 45 = .ok (.if_icmp .ne 11, 3) := by decide +kernel
theorem dX12_findBlocks_48 : decode cX12_findBlocks 48 = .ok (.aload_n 0, 1) := by decide +kernel
theorem dX12_findBlocks_49 : decode cX12_findBlocks 49 = .ok (.iload_n 2, 1) := by decide +kernel
theorem dX12_findBlocks_50 : decode cX12_findBlocks 50 = .ok (.invokevirtual 114, 3) := by decide +kernel
theorem dX12_findBlocks_53 : decode cX12_findBlocks 53 = .ok (.goto 4, 3) := by decide +kernel
theorem dX12_findBlocks_56 : decode cX12_findBlocks 56 = .ok (.iconst (-1), 1) := by decide +kernel
theorem dX12_findBlocks_57 : decode cX12_findBlocks 57 = .ok (.istore_n 3, 1) := by decide +kernel
theorem dX12_findBlocks_58 : decode cX12_findBlocks 58 = .ok (.iload_n 3, 1) := by decide +kernel
theorem dX12_findBlocks_59 : decode cX12_findBlocks 59 = .ok (.ifCond .lt 51, 3) := by decide +kernel
theorem dX12_findBlocks_62 : decode cX12_findBlocks 62 = .ok (.aload_n 0, 1) := by decide +kernel
theorem dX12_findBlocks_63 : decode cX12_findBlocks 63 = .ok (.getfield 31, 3) := by decide +kernel
theorem dX12_findBlocks_66 : decode cX12_findBlocks 66 = .ok (.iload_n 2, 1) := by decide +kernel
theorem dX12_findBlocks_67 : decode cX12_findBlocks 67 = .ok (.iaload, 1) := by decide +kernel
theorem dX12_findBlocks_68 : decode cX12_findBlocks 68 = .ok (.aload_n 0, 1) := by decide +kernel
theorem dX12_findBlocks_69 : decode cX12_findBlocks 69 = .ok (.getfield 31, 3) := by decide +kernel
theorem dX12_findBlocks_72 : decode cX12_findBlocks 72 = .ok (.iload_n 3, 1) := by decide +kernel
theorem dX12_findBlocks_73 : decode cX12_findBlocks 73 = .ok (.iaload, 1) := by decide +kernel
theorem dX12_findBlocks_74 : decode cX12_findBlocks 74 = .ok (.if_icmp .ge 12, 3) := by decide +kernel
theorem dX12_findBlocks_77 : decode cX12_findBlocks 77 = .ok (.aload_n 0, 1) := by decide +kernel
theorem dX12_findBlocks_78 : decode cX12_findBlocks 78 = .ok (.getfield 31, 3) := by decide +kernel
theorem dX12_findBlocks_81 : decode cX12_findBlocks 81 = .ok (.iload_n 2, 1) := by decide +kernel
theorem dX12_findBlocks_82 : decode cX12_findBlocks 82 = .ok (.iaload, 1) := by decide +kernel
theorem dX12_findBlocks_83 : decode cX12_findBlocks 83 = .ok (.goto 9, 3) := by decide +kernel
theorem dX12_findBlocks_86 : decode cX12_findBlocks 86 = .ok (.aload_n 0, 1) := by decide +kernel
theorem dX12_findBlocks_87 : decode cX12_findBlocks 87 = .ok (.getfield 31, 3) := by decide +kernel
theorem dX12_findBlocks_90 : decode cX12_findBlocks 90 = .ok (.iload_n 3, 1) := by decide +kernel
theorem dX12_findBlocks_91 : decode cX12_findBlocks 91 = .ok (.iaload, 1) := by decide +kernel
theorem dX12_findBlocks_92 : decode cX12_findBlocks 92 = .ok (.istore 4, 2) := by decide +kernel
theorem dX12_findBlocks_94 : decode cX12_findBlocks 94 = .ok (.aload_n 0, 1) := by decide +kernel
theorem dX12_findBlocks_95 : decode cX12_findBlocks 95 = .ok (.getfield 31, 3) := by decide +kernel
theorem dX12_findBlocks_98 : decode cX12_findBlocks 98 = .ok (.iload_n 2, 1) := by decide +kernel
theorem dX12_findBlocks_99 : decode cX12_findBlocks 99 = .ok (.iload 4, 2) := by decide +kernel
theorem dX12_findBlocks_101 : decode cX12_findBlocks 101 = .ok (.iastore, 1) := by decide +kernel
theorem dX12_findBlocks_102 : decode cX12_findBlocks 102 = .ok (.aload_n 0, 1) := by decide +kernel
theorem dX12_findBlocks_103 : decode cX12_findBlocks 103 = .ok (.getfield 31, 3) := by decide +kernel
theorem dX12_findBlocks_106 : decode cX12_findBlocks 106 = .ok (.iload_n 3, 1) := by decide +kernel
theorem dX12_findBlocks_107 : decode cX12_findBlocks 107 = .ok (.iload 4, 2) := by decide +kernel
theorem dX12_findBlocks_109 : decode cX12_findBlocks 109 = .ok (.iastore, 1) := by decide +kernel
theorem dX12_findBlocks_110 : decode cX12_findBlocks 110 = .ok (.iinc 2 1, 3) := by decide +kernel
theorem dX12_findBlocks_113 : decode cX12_findBlocks 113 = .ok (.goto (-82), 3) := by decide +kernel
theorem dX12_findBlocks_116 : decode cX12_findBlocks 116 = .ok (.iinc 1 1, 3) := by decide +kernel
theorem dX12_findBlocks_119 : decode cX12_findBlocks 119 = .ok (.goto (-96), 3) := by decide +kernel
theorem dX12_findBlocks_122 : decode cX12_findBlocks 122 = .ok (.return_, 1) := by decide +kernel
set_option maxRecDepth 20000 in
set_option maxRecDepth 100000 in
theorem ggX12_findDirect_X12_hens : GoodIn wsX12_findDirect wsX12_hens := goodIn_r _ [6, 7, 32, 33, 34, 35, 36, 37, 38, 39, 40, 41, 42, 43, 44, 45, 46, 47, 48, 49] rfl (by decide +kernel)
set_option maxRecDepth 20000 in
theorem gX12_findDirect_X12_hens : GoodIn wsX12_findDirect (wsV RX12 53 RX12 yX12_hens wsX12_hens) := goodIn_app (goodIn_of _ (by decide +kernel)) ggX12_findDirect_X12_hens
set_option maxRecDepth 20000 in
set_option maxRecDepth 100000 in
theorem ggX12_findDirect_X12_askedBy : GoodIn wsX12_findDirect wsX12_askedBy := goodIn_r _ [11, 12, 13, 14, 15, 5, 16, 7, 17, 18, 19, 20, 21, 22, 23, 24, 25, 26, 27, 2, 3, 4, 6, 28, 29, 30, 31, 32, 33, 34, 35, 36, 37, 38, 39, 40, 41, 42, 43, 44, 45, 46, 47, 48, 49] rfl (by decide +kernel)
set_option maxRecDepth 20000 in
theorem gX12_findDirect_X12_askedBy : GoodIn wsX12_findDirect (wsV RX12 114 RX12 yX12_askedBy wsX12_askedBy) := goodIn_app (goodIn_of _ (by decide +kernel)) ggX12_findDirect_X12_askedBy
set_option maxRecDepth 20000 in
set_option maxRecDepth 100000 in
theorem ggX12_findDirect_X12_kind : GoodIn wsX12_findDirect wsX12_kind := goodIn_r _ [16, 7, 32, 33, 34, 35, 36, 37, 38, 39, 40, 41, 42, 43, 44, 45, 46, 47, 48, 49] rfl (by decide +kernel)
set_option maxRecDepth 20000 in
theorem gX12_findDirect_X12_kind : GoodIn wsX12_findDirect (wsV RX12 91 RX12 yX12_kind wsX12_kind) := goodIn_app (goodIn_of _ (by decide +kernel)) ggX12_findDirect_X12_kind
theorem dX12_findDirect_0 : decode cX12_findDirect 0 = .ok (.iconst 0, 1) := by decide +kernel
theorem dX12_findDirect_1 : decode cX12_findDirect 1 = .ok (.istore_n 1, 1) := by decide +kernel
theorem dX12_findDirect_2 : decode cX12_findDirect 2 = .ok (.iload_n 1, 1) := by decide +kernel
theorem dX12_findDirect_3 : decode cX12_findDirect 3 = .ok (.sipush 144, 3) := by decide +kernel
theorem dX12_findDirect_6 : decode cX12_findDirect 6 = .ok (.if_icmp .ge 16, 3) := by decide +kernel
theorem dX12_findDirect_9 : decode cX12_findDirect 9 = .ok (.aload_n 0, 1) := by decide +kernel
theorem dX12_findDirect_10 : decode cX12_findDirect 10 = .ok (.getfield 27, 3) := by decide +kernel
theorem dX12_findDirect_13 : decode cX12_findDirect 13 = .ok (.iload_n 1, 1) := by decide +kernel
theorem dX12_findDirect_14 : decode cX12_findDirect 14 = .ok (.iconst 0, 1) := by decide +kernel
theorem dX12_findDirect_15 : decode cX12_findDirect 15 = .ok (.bastore, 1) := by decide +kernel
theorem dX12_findDirect_16 : decode cX12_findDirect 16 = .ok (.iinc 1 1, 3) := by decide +kernel
theorem dX12_findDirect_19 : decode cX12_findDirect 19 = .ok (.goto (-17), 3) := by decide +kernel
theorem dX12_findDirect_22 : decode cX12_findDirect 22 = .ok (.iconst 0, 1) := by decide +kernel
theorem dX12_findDirect_23 : decode cX12_findDirect 23 = .ok (.istore_n 1, 1) := by decide +kernel
theorem dX12_findDirect_24 : decode cX12_findDirect 24 = .ok (.iload_n 1, 1) := by decide +kernel
theorem dX12_findDirect_25 : decode cX12_findDirect 25 = .ok (.aload_n 0, 1) := by decide +kernel
theorem dX12_findDirect_26 : decode cX12_findDirect 26 = .ok (.invokevirtual 53, 3) := by decide +kernel
theorem dX12_findDirect_29 : decode cX12_findDirect 29 = .ok (.if_icmp .ge 49, 3) := by decide +kernel
theorem dX12_findDirect_32 : decode cX12_findDirect 32 = .ok (.aload_n 0, 1) := by decide +kernel
theorem dX12_findDirect_33 : decode cX12_findDirect 33 = .ok (.iload_n 1, 1) := by decide +kernel
theorem dX12_findDirect_34 : decode cX12_findDirect 34 = .ok (.invokevirtual 114, 3) := by decide +kernel
theorem dX12_findDirect_37 : decode cX12_findDirect 37 = .ok (.istore_n 2, 1) := by decide +kernel
theorem dX12_findDirect_38 : decode cX12_findDirect 38 = .ok (.iload_n 2, 1) := by decide +kernel
theorem dX12_findDirect_39 : decode cX12_findDirect 39 = .ok (.ifCond .lt 33, 3) := by decide +kernel
theorem dX12_findDirect_42 : decode cX12_findDirect 42 = .ok (.aload_n 0, 1) := by decide +kernel
theorem dX12_findDirect_43 : decode cX12_findDirect 43 = .ok (.getfield 27, 3) := by decide +kernel
theorem dX12_findDirect_46 : decode cX12_findDirect 46 = .ok (.aload_n 0, 1) := by decide +kernel
theorem dX12_findDirect_47 : decode cX12_findDirect 47 = .ok (.iload_n 1, 1) := by decide +kernel
theorem dX12_findDirect_48 : decode cX12_findDirect 48 = .ok (.invokevirtual 91, 3) := by decide +kernel
theorem dX12_findDirect_51 : decode cX12_findDirect 51 = .ok (.iconst 2, 1) := by decide +kernel
theorem dX12_findDirect_52 : decode cX12_findDirect 52 = .ok (.if_icmp .ne 12, 3) := by decide +kernel
theorem dX12_findDirect_55 : decode cX12_findDirect 55 = .ok (.bipush 12, 2) := by decide +kernel
theorem dX12_findDirect_57 : decode cX12_findDirect 57 = .ok (.iload_n 1, 1) := by decide +kernel
theorem dX12_findDirect_58 : decode cX12_findDirect 58 = .ok (.imul, 1) := by decide +kernel
theorem dX12_findDirect_59 : decode cX12_findDirect 59 = .ok (.iload_n 2, 1) := by decide +kernel
theorem dX12_findDirect_60 : decode cX12_findDirect 60 = .ok (.iadd, 1) := by decide +kernel
theorem dX12_findDirect_61 : decode cX12_findDirect 61 = .ok (.goto 9, 3) := by decide +kernel
theorem dX12_findDirect_64 : decode cX12_findDirect 64 = .ok (.bipush 12, 2) := by decide +kernel
theorem dX12_findDirect_66 : decode cX12_findDirect 66 = .ok (.iload_n 2, 1) := by decide +kernel
theorem dX12_findDirect_67 : decode cX12_findDirect 67 = .ok (.imul, 1) := by decide +kernel
theorem dX12_findDirect_68 : decode cX12_findDirect 68 = .ok (.iload_n 1, 1) := by decide +kernel
theorem dX12_findDirect_69 : decode cX12_findDirect 69 = .ok (.iadd, 1) := by decide +kernel
theorem dX12_findDirect_70 : decode cX12_findDirect 70 = .ok (.iconst 1, 1) := by decide +kernel
theorem dX12_findDirect_71 : decode cX12_findDirect 71 = .ok (.bastore, 1) := by decide +kernel
theorem dX12_findDirect_72 : decode cX12_findDirect 72 = .ok (.iinc 1 1, 3) := by decide +kernel
theorem dX12_findDirect_75 : decode cX12_findDirect 75 = .ok (.goto (-51), 3) := by decide +kernel
theorem dX12_findDirect_78 : decode cX12_findDirect 78 = .ok (.return_, 1) := by decide +kernel
set_option maxRecDepth 20000 in
set_option maxRecDepth 100000 in
theorem ggX12_grows_X12_hens : GoodIn wsX12_grows wsX12_hens := goodIn_r _ [7, 8, 24, 25, 26, 27, 28, 29, 30, 31, 32, 33, 34, 35, 36, 37, 38, 39, 40, 41] rfl (by decide +kernel)
set_option maxRecDepth 20000 in
theorem gX12_grows_X12_hens : GoodIn wsX12_grows (wsV RX12 53 RX12 yX12_hens wsX12_hens) := goodIn_app (goodIn_of _ (by decide +kernel)) ggX12_grows_X12_hens
set_option maxRecDepth 20000 in
set_option maxRecDepth 100000 in
theorem ggX12_grows_X12_counts : GoodIn wsX12_grows wsX12_counts := goodIn_r _ [12, 8, 13, 14, 15, 6, 16, 3, 4, 5, 7, 17, 18, 19, 20, 21, 22, 23, 24, 25, 26, 27, 28, 29, 30, 31, 32, 33, 34, 35, 36, 37, 38, 39, 40, 41] rfl (by decide +kernel)
set_option maxRecDepth 20000 in
theorem gX12_grows_X12_counts : GoodIn wsX12_grows (wsV RX12 109 RX12 yX12_counts wsX12_counts) := goodIn_app (goodIn_of _ (by decide +kernel)) ggX12_grows_X12_counts
theorem dX12_grows_0 : decode cX12_grows 0 = .ok (.iconst 0, 1) := by decide +kernel
theorem dX12_grows_1 : decode cX12_grows 1 = .ok (.istore_n 3, 1) := by decide +kernel
theorem dX12_grows_2 : decode cX12_grows 2 = .ok (.iconst 0, 1) := by decide +kernel
theorem dX12_grows_3 : decode cX12_grows 3 = .ok (.istore 4, 2) := by decide +kernel
theorem dX12_grows_5 : decode cX12_grows 5 = .ok (.iload 4, 2) := by decide +kernel
theorem dX12_grows_7 : decode cX12_grows 7 = .ok (.aload_n 0, 1) := by decide +kernel
theorem dX12_grows_8 : decode cX12_grows 8 = .ok (.invokevirtual 53, 3) := by decide +kernel
theorem dX12_grows_11 : decode cX12_grows 11 = .ok (.if_icmp .ge 190, 3) := by decide +kernel
theorem dX12_grows_14 : decode cX12_grows 14 = .ok (.iconst 0, 1) := by decide +kernel
theorem dX12_grows_15 : decode cX12_grows 15 = .ok (.istore 5, 2) := by decide +kernel
theorem dX12_grows_17 : decode cX12_grows 17 = .ok (.iload 5, 2) := by decide +kernel
theorem dX12_grows_19 : decode cX12_grows 19 = .ok (.aload_n 0, 1) := by decide +kernel
theorem dX12_grows_20 : decode cX12_grows 20 = .ok (.invokevirtual 53, 3) := by decide +kernel
theorem dX12_grows_23 : decode cX12_grows 23 = .ok (.if_icmp .ge 172, 3) := by decide +kernel
theorem dX12_grows_26 : decode cX12_grows 26 = .ok (.iload 4, 2) := by decide +kernel
theorem dX12_grows_28 : decode cX12_grows 28 = .ok (.iload_n 1, 1) := by decide +kernel
theorem dX12_grows_29 : decode cX12_grows 29 = .ok (.if_icmp .ne 18, 3) := by decide +kernel
theorem dX12_grows_32 : decode cX12_grows 32 = .ok (.aload_n 0, 1) := by decide +kernel
theorem dX12_grows_33 : decode cX12_grows 33 = .ok (.getfield 27, 3) := by decide +kernel
theorem dX12_grows_36 : decode cX12_grows 36 = .ok (.bipush 12, 2) := by decide +kernel
theorem dX12_grows_38 : decode cX12_grows 38 = .ok (.iload_n 2, 1) := by decide +kernel
theorem dX12_grows_39 : decode cX12_grows 39 = .ok (.imul, 1) := by decide +kernel
theorem dX12_grows_40 : decode cX12_grows 40 = .ok (.iload 5, 2) := by decide +kernel
theorem dX12_grows_42 : decode cX12_grows 42 = .ok (.iadd, 1) := by decide +kernel
theorem dX12_grows_43 : decode cX12_grows 43 = .ok (.baload, 1) := by decide +kernel
theorem dX12_grows_44 : decode cX12_grows 44 = .ok (.ifCond .ne 24, 3) := by decide +kernel
theorem dX12_grows_47 : decode cX12_grows 47 = .ok (.iload 5, 2) := by decide +kernel
theorem dX12_grows_49 : decode cX12_grows 49 = .ok (.iload_n 2, 1) := by decide +kernel
theorem dX12_grows_50 : decode cX12_grows 50 = .ok (.if_icmp .ne 22, 3) := by decide +kernel
theorem dX12_grows_53 : decode cX12_grows 53 = .ok (.aload_n 0, 1) := by decide +kernel
theorem dX12_grows_54 : decode cX12_grows 54 = .ok (.getfield 27, 3) := by decide +kernel
theorem dX12_grows_57 : decode cX12_grows 57 = .ok (.bipush 12, 2) := by decide +kernel
theorem dX12_grows_59 : decode cX12_grows 59 = .ok (.iload 4, 2) := by decide +kernel
theorem dX12_grows_61 : decode cX12_grows 61 = .ok (.imul, 1) := by decide +kernel
theorem dX12_grows_62 : decode cX12_grows 62 = .ok (.iload_n 1, 1) := by decide +kernel
theorem dX12_grows_63 : decode cX12_grows 63 = .ok (.iadd, 1) := by decide +kernel
theorem dX12_grows_64 : decode cX12_grows 64 = .ok (.baload, 1) := by decide +kernel
theorem dX12_grows_65 : decode cX12_grows 65 = .ok (.ifCond .eq 7, 3) := by decide +kernel
theorem dX12_grows_68 : decode cX12_grows 68 = .ok (.iconst 1, 1) := by decide +kernel
theorem dX12_grows_69 : decode cX12_grows 69 = .ok (.goto 4, 3) := by decide +kernel
theorem dX12_grows_72 : decode cX12_grows 72 = .ok (.iconst 0, 1) := by decide +kernel
theorem dX12_grows_73 : decode cX12_grows 73 = .ok (.istore 6, 2) := by decide +kernel
theorem dX12_grows_75 : decode cX12_grows 75 = .ok (.aload_n 0, 1) := by decide +kernel
theorem dX12_grows_76 : decode cX12_grows 76 = .ok (.getfield 31, 3) := by decide +kernel
theorem dX12_grows_79 : decode cX12_grows 79 = .ok (.iload_n 1, 1) := by decide +kernel
theorem dX12_grows_80 : decode cX12_grows 80 = .ok (.iaload, 1) := by decide +kernel
theorem dX12_grows_81 : decode cX12_grows 81 = .ok (.aload_n 0, 1) := by decide +kernel
theorem dX12_grows_82 : decode cX12_grows 82 = .ok (.getfield 31, 3) := by decide +kernel
theorem dX12_grows_85 : decode cX12_grows 85 = .ok (.iload_n 2, 1) := by decide +kernel
theorem dX12_grows_86 : decode cX12_grows 86 = .ok (.iaload, 1) := by decide +kernel
theorem dX12_grows_87 : decode cX12_grows 87 = .ok (.if_icmp .eq 57, 3) := by decide +kernel
theorem dX12_grows_90 : decode cX12_grows 90 = .ok (.aload_n 0, 1) := by decide +kernel
theorem dX12_grows_91 : decode cX12_grows 91 = .ok (.iload 4, 2) := by decide +kernel
theorem dX12_grows_93 : decode cX12_grows 93 = .ok (.invokevirtual 109, 3) := by decide +kernel
theorem dX12_grows_96 : decode cX12_grows 96 = .ok (.ifCond .eq 48, 3) := by decide +kernel
theorem dX12_grows_99 : decode cX12_grows 99 = .ok (.aload_n 0, 1) := by decide +kernel
theorem dX12_grows_100 : decode cX12_grows 100 = .ok (.iload 5, 2) := by decide +kernel
theorem dX12_grows_102 : decode cX12_grows 102 = .ok (.invokevirtual 109, 3) := by decide +kernel
theorem dX12_grows_105 : decode cX12_grows 105 = .ok (.ifCond .eq 39, 3) := by decide +kernel
theorem dX12_grows_108 : decode cX12_grows 108 = .ok (.aload_n 0, 1) := by decide +kernel
theorem dX12_grows_109 : decode cX12_grows 109 = .ok (.getfield 31, 3) := by decide +kernel
theorem dX12_grows_112 : decode cX12_grows 112 = .ok (.iload 4, 2) := by decide +kernel
theorem dX12_grows_114 : decode cX12_grows 114 = .ok (.iaload, 1) := by decide +kernel
theorem dX12_grows_115 : decode cX12_grows 115 = .ok (.aload_n 0, 1) := by decide +kernel
theorem dX12_grows_116 : decode cX12_grows 116 = .ok (.getfield 31, 3) := by decide +kernel
theorem dX12_grows_119 : decode cX12_grows 119 = .ok (.iload_n 1, 1) := by decide +kernel
theorem dX12_grows_120 : decode cX12_grows 120 = .ok (.iaload, 1) := by decide +kernel
theorem dX12_grows_121 : decode cX12_grows 121 = .ok (.if_icmp .ne 23, 3) := by decide +kernel
theorem dX12_grows_124 : decode cX12_grows 124 = .ok (.aload_n 0, 1) := by decide +kernel
theorem dX12_grows_125 : decode cX12_grows 125 = .ok (.getfield 31, 3) := by decide +kernel
theorem dX12_grows_128 : decode cX12_grows 128 = .ok (.iload 5, 2) := by decide +kernel
theorem dX12_grows_130 : decode cX12_grows 130 = .ok (.iaload, 1) := by decide +kernel
theorem dX12_grows_131 : decode cX12_grows 131 = .ok (.aload_n 0, 1) := by decide +kernel
theorem dX12_grows_132 : decode cX12_grows 132 = .ok (.getfield 31, 3) := by decide +kernel
theorem dX12_grows_135 : decode cX12_grows 135 = .ok (.iload_n 2, 1) := by decide +kernel
theorem dX12_grows_136 : decode cX12_grows 136 = .ok (.iaload, 1) := by decide +kernel
theorem dX12_grows_137 : decode cX12_grows 137 = .ok (.if_icmp .ne 7, 3) := by decide +kernel
theorem dX12_grows_140 : decode cX12_grows 140 = .ok (.iconst 1, 1) := by decide +kernel
theorem dX12_grows_141 : decode cX12_grows 141 = .ok (.goto 4, 3) := by decide +kernel
theorem dX12_grows_144 : decode cX12_grows 144 = .ok (.iconst 0, 1) := by decide +kernel
theorem dX12_grows_145 : decode cX12_grows 145 = .ok (.istore 7, 2) := by decide +kernel
theorem dX12_grows_147 : decode cX12_grows 147 = .ok (.iload 6, 2) := by decide +kernel
theorem dX12_grows_149 : decode cX12_grows 149 = .ok (.ifCond .ne 8, 3) := by decide +kernel
theorem dX12_grows_152 : decode cX12_grows 152 = .ok (.iload 7, 2) := by decide +kernel
theorem dX12_grows_154 : decode cX12_grows 154 = .ok (.ifCond .eq 35, 3) := by decide +kernel
theorem dX12_grows_157 : decode cX12_grows 157 = .ok (.aload_n 0, 1) := by decide +kernel
theorem dX12_grows_158 : decode cX12_grows 158 = .ok (.getfield 27, 3) := by decide +kernel
theorem dX12_grows_161 : decode cX12_grows 161 = .ok (.bipush 12, 2) := by decide +kernel
theorem dX12_grows_163 : decode cX12_grows 163 = .ok (.iload 4, 2) := by decide +kernel
theorem dX12_grows_165 : decode cX12_grows 165 = .ok (.imul, 1) := by decide +kernel
theorem dX12_grows_166 : decode cX12_grows 166 = .ok (.iload 5, 2) := by decide +kernel
theorem dX12_grows_168 : decode cX12_grows 168 = .ok (.iadd, 1) := by decide +kernel
theorem dX12_grows_169 : decode cX12_grows 169 = .ok (.baload, 1) := by decide +kernel
theorem dX12_grows_170 : decode cX12_grows 170 = .ok (.ifCond .ne 19, 3) := by decide +kernel
theorem dX12_grows_173 : decode cX12_grows 173 = .ok (.aload_n 0, 1) := by decide +kernel
theorem dX12_grows_174 : decode cX12_grows 174 = .ok (.getfield 27, 3) := by decide +kernel
theorem dX12_grows_177 : decode cX12_grows 177 = .ok (.bipush 12, 2) := by decide +kernel
theorem dX12_grows_179 : decode cX12_grows 179 = .ok (.iload 4, 2) := by decide +kernel
theorem dX12_grows_181 : decode cX12_grows 181 = .ok (.imul, 1) := by decide +kernel
theorem dX12_grows_182 : decode cX12_grows 182 = .ok (.iload 5, 2) := by decide +kernel
theorem dX12_grows_184 : decode cX12_grows 184 = .ok (.iadd, 1) := by decide +kernel
theorem dX12_grows_185 : decode cX12_grows 185 = .ok (.iconst 1, 1) := by decide +kernel
theorem dX12_grows_186 : decode cX12_grows 186 = .ok (.bastore, 1) := by decide +kernel
theorem dX12_grows_187 : decode cX12_grows 187 = .ok (.iconst 1, 1) := by decide +kernel
theorem dX12_grows_188 : decode cX12_grows 188 = .ok (.istore_n 3, 1) := by decide +kernel
theorem dX12_grows_189 : decode cX12_grows 189 = .ok (.iinc 5 1, 3) := by decide +kernel
theorem dX12_grows_192 : decode cX12_grows 192 = .ok (.goto (-175), 3) := by decide +kernel
theorem dX12_grows_195 : decode cX12_grows 195 = .ok (.iinc 4 1, 3) := by decide +kernel
theorem dX12_grows_198 : decode cX12_grows 198 = .ok (.goto (-193), 3) := by decide +kernel
theorem dX12_grows_201 : decode cX12_grows 201 = .ok (.iload_n 3, 1) := by decide +kernel
theorem dX12_grows_202 : decode cX12_grows 202 = .ok (.ireturn, 1) := by decide +kernel
set_option maxRecDepth 20000 in
set_option maxRecDepth 100000 in
theorem ggX12_findAll_X12_hens : GoodIn wsX12_findAll wsX12_hens := goodIn_r _ [6, 7, 28, 29, 30, 31, 32, 33, 34, 35, 36, 37, 38, 39, 40, 41, 42, 43, 44, 45] rfl (by decide +kernel)
set_option maxRecDepth 20000 in
theorem gX12_findAll_X12_hens : GoodIn wsX12_findAll (wsV RX12 53 RX12 yX12_hens wsX12_hens) := goodIn_app (goodIn_of _ (by decide +kernel)) ggX12_findAll_X12_hens
set_option maxRecDepth 20000 in
set_option maxRecDepth 100000 in
theorem ggX12_findAll_X12_grows : GoodIn wsX12_findAll wsX12_grows := goodIn_r _ [11, 1, 12, 2, 3, 4, 5, 6, 7, 13, 14, 15, 16, 17, 18, 19, 20, 21, 22, 23, 24, 25, 26, 27, 28, 29, 30, 31, 32, 33, 34, 35, 36, 37, 38, 39, 40, 41, 42, 43, 44, 45] rfl (by decide +kernel)
set_option maxRecDepth 20000 in
theorem gX12_findAll_X12_grows : GoodIn wsX12_findAll (wsV RX12 165 RX12 yX12_grows wsX12_grows) := goodIn_app (goodIn_of _ (by decide +kernel)) ggX12_findAll_X12_grows
theorem dX12_findAll_0 : decode cX12_findAll 0 = .ok (.iconst 1, 1) := by decide +kernel
theorem dX12_findAll_1 : decode cX12_findAll 1 = .ok (.istore_n 1, 1) := by decide +kernel
theorem dX12_findAll_2 : decode cX12_findAll 2 = .ok (.iload_n 1, 1) := by decide +kernel
theorem dX12_findAll_3 : decode cX12_findAll 3 = .ok (.ifCond .eq 65, 3) := by decide +kernel
theorem dX12_findAll_6 : decode cX12_findAll 6 = .ok (.iconst 0, 1) := by decide +kernel
theorem dX12_findAll_7 : decode cX12_findAll 7 = .ok (.istore_n 1, 1) := by decide +kernel
theorem dX12_findAll_8 : decode cX12_findAll 8 = .ok (.iconst 0, 1) := by decide +kernel
theorem dX12_findAll_9 : decode cX12_findAll 9 = .ok (.istore_n 2, 1) := by decide +kernel
theorem dX12_findAll_10 : decode cX12_findAll 10 = .ok (.iload_n 2, 1) := by decide +kernel
theorem dX12_findAll_11 : decode cX12_findAll 11 = .ok (.aload_n 0, 1) := by decide +kernel
theorem dX12_findAll_12 : decode cX12_findAll 12 = .ok (.invokevirtual 53, 3) := by decide +kernel
theorem dX12_findAll_15 : decode cX12_findAll 15 = .ok (.if_icmp .ge 50, 3) := by decide +kernel
theorem dX12_findAll_18 : decode cX12_findAll 18 = .ok (.iconst 0, 1) := by decide +kernel
theorem dX12_findAll_19 : decode cX12_findAll 19 = .ok (.istore_n 3, 1) := by decide +kernel
theorem dX12_findAll_20 : decode cX12_findAll 20 = .ok (.iload_n 3, 1) := by decide +kernel
theorem dX12_findAll_21 : decode cX12_findAll 21 = .ok (.aload_n 0, 1) := by decide +kernel
theorem dX12_findAll_22 : decode cX12_findAll 22 = .ok (.invokevirtual 53, 3) := by decide +kernel
theorem dX12_findAll_25 : decode cX12_findAll 25 = .ok (.if_icmp .ge 34, 3) := by decide +kernel
theorem dX12_findAll_28 : decode cX12_findAll 28 = .ok (.aload_n 0, 1) := by decide +kernel
theorem dX12_findAll_29 : decode cX12_findAll 29 = .ok (.getfield 27, 3) := by decide +kernel
theorem dX12_findAll_32 : decode cX12_findAll 32 = .ok (.bipush 12, 2) := by decide +kernel
theorem dX12_findAll_34 : decode cX12_findAll 34 = .ok (.iload_n 2, 1) := by decide +kernel
theorem dX12_findAll_35 : decode cX12_findAll 35 = .ok (.imul, 1) := by decide +kernel
theorem dX12_findAll_36 : decode cX12_findAll 36 = .ok (.iload_n 3, 1) := by decide +kernel
theorem dX12_findAll_37 : decode cX12_findAll 37 = .ok (.iadd, 1) := by decide +kernel
theorem dX12_findAll_38 : decode cX12_findAll 38 = .ok (.baload, 1) := by decide +kernel
theorem dX12_findAll_39 : decode cX12_findAll 39 = .ok (.ifCond .eq 14, 3) := by decide +kernel
theorem dX12_findAll_42 : decode cX12_findAll 42 = .ok (.aload_n 0, 1) := by decide +kernel
theorem dX12_findAll_43 : decode cX12_findAll 43 = .ok (.iload_n 2, 1) := by decide +kernel
theorem dX12_findAll_44 : decode cX12_findAll 44 = .ok (.iload_n 3, 1) := by decide +kernel
theorem dX12_findAll_45 : decode cX12_findAll 45 = .ok (.invokevirtual 165, 3) := by decide +kernel
theorem dX12_findAll_48 : decode cX12_findAll 48 = .ok (.ifCond .eq 5, 3) := by decide +kernel
theorem dX12_findAll_51 : decode cX12_findAll 51 = .ok (.iconst 1, 1) := by decide +kernel
theorem dX12_findAll_52 : decode cX12_findAll 52 = .ok (.istore_n 1, 1) := by decide +kernel
theorem dX12_findAll_53 : decode cX12_findAll 53 = .ok (.iinc 3 1, 3) := by decide +kernel
theorem dX12_findAll_56 : decode cX12_findAll 56 = .ok (.goto (-36), 3) := by decide +kernel
theorem dX12_findAll_59 : decode cX12_findAll 59 = .ok (.iinc 2 1, 3) := by decide +kernel
theorem dX12_findAll_62 : decode cX12_findAll 62 = .ok (.goto (-52), 3) := by decide +kernel
theorem dX12_findAll_65 : decode cX12_findAll 65 = .ok (.goto (-63), 3) := by decide +kernel
theorem dX12_findAll_68 : decode cX12_findAll 68 = .ok (.return_, 1) := by decide +kernel
set_option maxRecDepth 20000 in
set_option maxRecDepth 100000 in
theorem ggX12_why_X12_hens : GoodIn wsX12_why wsX12_hens := goodIn_r _ [8, 9, 51, 52, 53, 54, 55, 56, 57, 58, 59, 60, 61, 62, 63, 64, 65, 66, 67, 68] rfl (by decide +kernel)
set_option maxRecDepth 20000 in
theorem gX12_why_X12_hens : GoodIn wsX12_why (wsV RX12 53 RX12 yX12_hens wsX12_hens) := goodIn_app (goodIn_of _ (by decide +kernel)) ggX12_why_X12_hens
set_option maxRecDepth 20000 in
set_option maxRecDepth 100000 in
theorem ggX12_why_X12_kind : GoodIn wsX12_why wsX12_kind := goodIn_r _ [13, 9, 51, 52, 53, 54, 55, 56, 57, 58, 59, 60, 61, 62, 63, 64, 65, 66, 67, 68] rfl (by decide +kernel)
set_option maxRecDepth 20000 in
theorem gX12_why_X12_kind : GoodIn wsX12_why (wsV RX12 91 RX12 yX12_kind wsX12_kind) := goodIn_app (goodIn_of _ (by decide +kernel)) ggX12_why_X12_kind
set_option maxRecDepth 20000 in
set_option maxRecDepth 100000 in
theorem ggX12_why_X12_askedBy : GoodIn wsX12_why wsX12_askedBy := goodIn_r _ [17, 18, 10, 11, 12, 7, 13, 9, 19, 20, 21, 22, 23, 24, 25, 26, 27, 28, 29, 4, 5, 6, 8, 30, 31, 32, 33, 51, 52, 53, 54, 55, 56, 57, 58, 59, 60, 61, 62, 63, 64, 65, 66, 67, 68] rfl (by decide +kernel)
set_option maxRecDepth 20000 in
theorem gX12_why_X12_askedBy : GoodIn wsX12_why (wsV RX12 114 RX12 yX12_askedBy wsX12_askedBy) := goodIn_app (goodIn_of _ (by decide +kernel)) ggX12_why_X12_askedBy
set_option maxRecDepth 20000 in
set_option maxRecDepth 100000 in
theorem ggX12_why_X12_findBlocks : GoodIn wsX12_why wsX12_findBlocks := goodIn_r _ [37, 38, 4, 5, 6, 7, 8, 9, 10, 11, 12, 13, 14, 15, 16, 17, 18, 19, 20, 21, 22, 23, 24, 25, 26, 27, 28, 29, 30, 31, 32, 33, 51, 52, 53, 54, 55, 56, 57, 58, 59, 60, 61, 62, 63, 64, 65, 66, 67, 68] rfl (by decide +kernel)
set_option maxRecDepth 20000 in
theorem gX12_why_X12_findBlocks : GoodIn wsX12_why (wsV RX12 170 RX12 yX12_findBlocks wsX12_findBlocks) := goodIn_app (goodIn_of _ (by decide +kernel)) ggX12_why_X12_findBlocks
set_option maxRecDepth 20000 in
set_option maxRecDepth 100000 in
theorem ggX12_why_X12_findDirect : GoodIn wsX12_why wsX12_findDirect := goodIn_r _ [42, 2, 4, 5, 6, 7, 8, 9, 14, 15, 16, 17, 18, 10, 11, 12, 13, 19, 20, 21, 22, 23, 24, 25, 26, 27, 28, 29, 30, 31, 32, 33, 51, 52, 53, 54, 55, 56, 57, 58, 59, 60, 61, 62, 63, 64, 65, 66, 67, 68] rfl (by decide +kernel)
set_option maxRecDepth 20000 in
theorem gX12_why_X12_findDirect : GoodIn wsX12_why (wsV RX12 173 RX12 yX12_findDirect wsX12_findDirect) := goodIn_app (goodIn_of _ (by decide +kernel)) ggX12_why_X12_findDirect
set_option maxRecDepth 20000 in
set_option maxRecDepth 100000 in
theorem ggX12_why_X12_findAll : GoodIn wsX12_why wsX12_findAll := goodIn_r _ [46, 2, 4, 5, 6, 7, 8, 9, 47, 48, 49, 50, 38, 22, 23, 24, 25, 26, 27, 28, 29, 19, 20, 21, 10, 11, 12, 13, 51, 52, 53, 54, 55, 56, 57, 58, 59, 60, 61, 62, 63, 64, 65, 66, 67, 68] rfl (by decide +kernel)
set_option maxRecDepth 20000 in
theorem gX12_why_X12_findAll : GoodIn wsX12_why (wsV RX12 176 RX12 yX12_findAll wsX12_findAll) := goodIn_app (goodIn_of _ (by decide +kernel)) ggX12_why_X12_findAll
theorem dX12_why_0 : decode cX12_why 0 = .ok (.iconst 0, 1) := by decide +kernel
theorem dX12_why_1 : decode cX12_why 1 = .ok (.istore_n 1, 1) := by decide +kernel
theorem dX12_why_2 : decode cX12_why 2 = .ok (.iload_n 1, 1) := by decide +kernel
theorem dX12_why_3 : decode cX12_why 3 = .ok (.aload_n 0, 1) := by decide +kernel
theorem dX12_why_4 : decode cX12_why 4 = .ok (.invokevirtual 53, 3) := by decide +kernel
theorem dX12_why_7 : decode cX12_why 7 = .ok (.if_icmp .ge 65, 3) := by decide +kernel
theorem dX12_why_10 : decode cX12_why 10 = .ok (.iconst 0, 1) := by decide +kernel
theorem dX12_why_11 : decode cX12_why 11 = .ok (.istore_n 2, 1) := by decide +kernel
theorem dX12_why_12 : decode cX12_why 12 = .ok (.iconst 0, 1) := by decide +kernel
theorem dX12_why_13 : decode cX12_why 13 = .ok (.istore_n 3, 1) := by decide +kernel
theorem dX12_why_14 : decode cX12_why 14 = .ok (.iload_n 3, 1) := by decide +kernel
theorem dX12_why_15 : decode cX12_why 15 = .ok (.aload_n 0, 1) := by decide +kernel
theorem dX12_why_16 : decode cX12_why 16 = .ok (.invokevirtual 53, 3) := by decide +kernel
theorem dX12_why_19 : decode cX12_why 19 = .ok (.if_icmp .ge 35, 3) := by decide +kernel
theorem dX12_why_22 : decode cX12_why 22 = .ok (.iload_n 2, 1) := by decide +kernel
theorem dX12_why_23 : decode cX12_why 23 = .ok (.aload_n 0, 1) := by decide +kernel
theorem dX12_why_24 : decode cX12_why 24 = .ok (.iload_n 3, 1) := by decide +kernel
theorem dX12_why_25 : decode cX12_why 25 = .ok (.invokevirtual 91, 3) := by decide +kernel
theorem dX12_why_28 : decode cX12_why 28 = .ok (.iconst 3, 1) := by decide +kernel
theorem dX12_why_29 : decode cX12_why 29 = .ok (.if_icmp .ne 16, 3) := by decide +kernel
theorem dX12_why_32 : decode cX12_why 32 = .ok (.aload_n 0, 1) := by decide +kernel
theorem dX12_why_33 : decode cX12_why 33 = .ok (.iload_n 3, 1) := by decide +kernel
theorem dX12_why_34 : decode cX12_why 34 = .ok (.invokevirtual 114, 3) := by decide +kernel
theorem dX12_why_37 : decode cX12_why 37 = .ok (.iload_n 1, 1) := by decide +kernel
theorem dX12_why_38 : decode cX12_why 38 = .ok (.if_icmp .ne 7, 3) := by decide +kernel
theorem dX12_why_41 : decode cX12_why 41 = .ok (.iconst 1, 1) := by decide +kernel
theorem dX12_why_42 : decode cX12_why 42 = .ok (.goto 4, 3) := by decide +kernel
theorem dX12_why_45 : decode cX12_why 45 = .ok (.iconst 0, 1) := by decide +kernel
theorem dX12_why_46 : decode cX12_why 46 = .ok (.iadd, 1) := by decide +kernel
theorem dX12_why_47 : decode cX12_why 47 = .ok (.istore_n 2, 1) := by decide +kernel
theorem dX12_why_48 : decode cX12_why 48 = .ok (.iinc 3 1, 3) := by decide +kernel
theorem dX12_why_51 : decode cX12_why 51 = .ok (.goto (-37), 3) := by decide +kernel
theorem dX12_why_54 : decode cX12_why 54 = .ok (.iload_n 2, 1) := by decide +kernel
theorem dX12_why_55 : decode cX12_why 55 = .ok (.iconst 1, 1) := by decide +kernel
theorem dX12_why_56 : decode cX12_why 56 = .ok (.if_icmp .le 10, 3) := by decide +kernel
theorem dX12_why_59 : decode cX12_why 59 = .ok (.ldc2_w 168, 3) := by decide +kernel
theorem dX12_why_62 : decode cX12_why 62 = .ok (.iload_n 1, 1) := by decide +kernel
theorem dX12_why_63 : decode cX12_why 63 = .ok (.i2l, 1) := by decide +kernel
theorem dX12_why_64 : decode cX12_why 64 = .ok (.ladd, 1) := by decide +kernel
theorem dX12_why_65 : decode cX12_why 65 = .ok (.lreturn, 1) := by decide +kernel
theorem dX12_why_66 : decode cX12_why 66 = .ok (.iinc 1 1, 3) := by decide +kernel
theorem dX12_why_69 : decode cX12_why 69 = .ok (.goto (-67), 3) := by decide +kernel
theorem dX12_why_72 : decode cX12_why 72 = .ok (.aload_n 0, 1) := by decide +kernel
theorem dX12_why_73 : decode cX12_why 73 = .ok (.invokevirtual 170, 3) := by decide +kernel
theorem dX12_why_76 : decode cX12_why 76 = .ok (.aload_n 0, 1) := by decide +kernel
theorem dX12_why_77 : decode cX12_why 77 = .ok (.invokevirtual 173, 3) := by decide +kernel
theorem dX12_why_80 : decode cX12_why 80 = .ok (.aload_n 0, 1) := by decide +kernel
theorem dX12_why_81 : decode cX12_why 81 = .ok (.invokevirtual 176, 3) := by decide +kernel
theorem dX12_why_84 : decode cX12_why 84 = .ok (.iconst 0, 1) := by decide +kernel
theorem dX12_why_85 : decode cX12_why 85 = .ok (.istore_n 1, 1) := by decide +kernel
theorem dX12_why_86 : decode cX12_why 86 = .ok (.iload_n 1, 1) := by decide +kernel
theorem dX12_why_87 : decode cX12_why 87 = .ok (.aload_n 0, 1) := by decide +kernel
theorem dX12_why_88 : decode cX12_why 88 = .ok (.invokevirtual 53, 3) := by decide +kernel
theorem dX12_why_91 : decode cX12_why 91 = .ok (.if_icmp .ge 26, 3) := by decide +kernel
theorem dX12_why_94 : decode cX12_why 94 = .ok (.aload_n 0, 1) := by decide +kernel
theorem dX12_why_95 : decode cX12_why 95 = .ok (.getfield 27, 3) := by decide +kernel
theorem dX12_why_98 : decode cX12_why 98 = .ok (.bipush 12, 2) := by decide +kernel
theorem dX12_why_100 : decode cX12_why 100 = .ok (.iload_n 1, 1) := by decide +kernel
theorem dX12_why_101 : decode cX12_why 101 = .ok (.imul, 1) := by decide +kernel
theorem dX12_why_102 : decode cX12_why 102 = .ok (.iload_n 1, 1) := by decide +kernel
theorem dX12_why_103 : decode cX12_why 103 = .ok (.iadd, 1) := by decide +kernel
theorem dX12_why_104 : decode cX12_why 104 = .ok (.baload, 1) := by decide +kernel
theorem dX12_why_105 : decode cX12_why 105 = .ok (.ifCond .eq 6, 3) := by decide +kernel
theorem dX12_why_108 : decode cX12_why 108 = .ok (.iload_n 1, 1) := by decide +kernel
theorem dX12_why_109 : decode cX12_why 109 = .ok (.i2l, 1) := by decide +kernel
theorem dX12_why_110 : decode cX12_why 110 = .ok (.lreturn, 1) := by decide +kernel
theorem dX12_why_111 : decode cX12_why 111 = .ok (.iinc 1 1, 3) := by decide +kernel
theorem dX12_why_114 : decode cX12_why 114 = .ok (.goto (-28), 3) := by decide +kernel
theorem dX12_why_117 : decode cX12_why 117 = .ok (.ldc2_w 112, 3) := by decide +kernel
theorem dX12_why_120 : decode cX12_why 120 = .ok (.lreturn, 1) := by decide +kernel
theorem dX12_begin_0 : decode cX12_begin 0 = .ok (.aload_n 0, 1) := by decide +kernel
theorem dX12_begin_1 : decode cX12_begin 1 = .ok (.getfield 153, 3) := by decide +kernel
theorem dX12_begin_4 : decode cX12_begin 4 = .ok (.istore_n 1, 1) := by decide +kernel
theorem dX12_begin_5 : decode cX12_begin 5 = .ok (.aload_n 0, 1) := by decide +kernel
theorem dX12_begin_6 : decode cX12_begin 6 = .ok (.iconst 0, 1) := by decide +kernel
theorem dX12_begin_7 : decode cX12_begin 7 = .ok (.putfield 153, 3) := by decide +kernel
theorem dX12_begin_10 : decode cX12_begin 10 = .ok (.iload_n 1, 1) := by decide +kernel
theorem dX12_begin_11 : decode cX12_begin 11 = .ok (.i2l, 1) := by decide +kernel
theorem dX12_begin_12 : decode cX12_begin 12 = .ok (.lreturn, 1) := by decide +kernel
theorem dX12_stands_0 : decode cX12_stands 0 = .ok (.iconst 0, 1) := by decide +kernel
theorem dX12_stands_1 : decode cX12_stands 1 = .ok (.istore_n 2, 1) := by decide +kernel
theorem dX12_stands_2 : decode cX12_stands 2 = .ok (.iconst 0, 1) := by decide +kernel
theorem dX12_stands_3 : decode cX12_stands 3 = .ok (.istore_n 3, 1) := by decide +kernel
theorem dX12_stands_4 : decode cX12_stands 4 = .ok (.iload_n 3, 1) := by decide +kernel
theorem dX12_stands_5 : decode cX12_stands 5 = .ok (.aload_n 0, 1) := by decide +kernel
theorem dX12_stands_6 : decode cX12_stands 6 = .ok (.getfield 153, 3) := by decide +kernel
theorem dX12_stands_9 : decode cX12_stands 9 = .ok (.if_icmp .ge 29, 3) := by decide +kernel
theorem dX12_stands_12 : decode cX12_stands 12 = .ok (.iload_n 2, 1) := by decide +kernel
theorem dX12_stands_13 : decode cX12_stands 13 = .ok (.ifCond .ne 13, 3) := by decide +kernel
theorem dX12_stands_16 : decode cX12_stands 16 = .ok (.aload_n 0, 1) := by decide +kernel
theorem dX12_stands_17 : decode cX12_stands 17 = .ok (.getfield 16, 3) := by decide +kernel
theorem dX12_stands_20 : decode cX12_stands 20 = .ok (.iload_n 3, 1) := by decide +kernel
theorem dX12_stands_21 : decode cX12_stands 21 = .ok (.iaload, 1) := by decide +kernel
theorem dX12_stands_22 : decode cX12_stands 22 = .ok (.iload_n 1, 1) := by decide +kernel
theorem dX12_stands_23 : decode cX12_stands 23 = .ok (.if_icmp .ne 7, 3) := by decide +kernel
theorem dX12_stands_26 : decode cX12_stands 26 = .ok (.iconst 1, 1) := by decide +kernel
theorem dX12_stands_27 : decode cX12_stands 27 = .ok (.goto 4, 3) := by decide +kernel
theorem dX12_stands_30 : decode cX12_stands 30 = .ok (.iconst 0, 1) := by decide +kernel
theorem dX12_stands_31 : decode cX12_stands 31 = .ok (.istore_n 2, 1) := by decide +kernel
theorem dX12_stands_32 : decode cX12_stands 32 = .ok (.iinc 3 1, 3) := by decide +kernel
theorem dX12_stands_35 : decode cX12_stands 35 = .ok (.goto (-31), 3) := by decide +kernel
theorem dX12_stands_38 : decode cX12_stands 38 = .ok (.iload_n 2, 1) := by decide +kernel
theorem dX12_stands_39 : decode cX12_stands 39 = .ok (.ireturn, 1) := by decide +kernel
set_option maxRecDepth 20000 in
set_option maxRecDepth 100000 in
theorem ggX12_stand_X12_isHen : GoodIn wsX12_stand wsX12_isHen := goodIn_r _ [9, 10, 11, 12, 8, 13, 14, 15, 16, 17, 22, 23, 24, 25, 26, 27, 28, 29, 30, 31, 32, 33, 34, 35, 36, 37, 38, 39] rfl (by decide +kernel)
set_option maxRecDepth 20000 in
theorem gX12_stand_X12_isHen : GoodIn wsX12_stand (wsV RX12 83 RX12 yX12_isHen wsX12_isHen) := goodIn_app (goodIn_of _ (by decide +kernel)) ggX12_stand_X12_isHen
set_option maxRecDepth 20000 in
set_option maxRecDepth 100000 in
theorem ggX12_stand_X12_stands : GoodIn wsX12_stand wsX12_stands := goodIn_r _ [21, 2, 4, 22, 23, 24, 25, 26, 27, 28, 29, 30, 31, 32, 33, 34, 35, 36, 37, 38, 39] rfl (by decide +kernel)
set_option maxRecDepth 20000 in
theorem gX12_stand_X12_stands : GoodIn wsX12_stand (wsV RX12 179 RX12 yX12_stands wsX12_stands) := goodIn_app (goodIn_of _ (by decide +kernel)) ggX12_stand_X12_stands
theorem dX12_stand_0 : decode cX12_stand 0 = .ok (.aload_n 0, 1) := by decide +kernel
theorem dX12_stand_1 : decode cX12_stand 1 = .ok (.iload_n 1, 1) := by decide +kernel
theorem dX12_stand_2 : decode cX12_stand 2 = .ok (.invokevirtual 83, 3) := by decide +kernel
theorem dX12_stand_5 : decode cX12_stand 5 = .ok (.ifCond .eq 11, 3) := by decide +kernel
theorem dX12_stand_8 : decode cX12_stand 8 = .ok (.aload_n 0, 1) := by decide +kernel
theorem dX12_stand_9 : decode cX12_stand 9 = .ok (.iload_n 1, 1) := by decide +kernel
theorem dX12_stand_10 : decode cX12_stand 10 = .ok (.invokevirtual 179, 3) := by decide +kernel
theorem dX12_stand_13 : decode cX12_stand 13 = .ok (.ifCond .eq 7, 3) := by decide +kernel
theorem dX12_stand_16 : decode cX12_stand 16 = .ok (.ldc2_w 72, 3) := by decide +kernel
theorem dX12_stand_19 : decode cX12_stand 19 = .ok (.lreturn, 1) := by decide +kernel
theorem dX12_stand_20 : decode cX12_stand 20 = .ok (.aload_n 0, 1) := by decide +kernel
theorem dX12_stand_21 : decode cX12_stand 21 = .ok (.getfield 153, 3) := by decide +kernel
theorem dX12_stand_24 : decode cX12_stand 24 = .ok (.bipush 12, 2) := by decide +kernel
theorem dX12_stand_26 : decode cX12_stand 26 = .ok (.if_icmp .ne 7, 3) := by decide +kernel
theorem dX12_stand_29 : decode cX12_stand 29 = .ok (.ldc2_w 74, 3) := by decide +kernel
theorem dX12_stand_32 : decode cX12_stand 32 = .ok (.lreturn, 1) := by decide +kernel
theorem dX12_stand_33 : decode cX12_stand 33 = .ok (.aload_n 0, 1) := by decide +kernel
theorem dX12_stand_34 : decode cX12_stand 34 = .ok (.getfield 16, 3) := by decide +kernel
theorem dX12_stand_37 : decode cX12_stand 37 = .ok (.aload_n 0, 1) := by decide +kernel
theorem dX12_stand_38 : decode cX12_stand 38 = .ok (.getfield 153, 3) := by decide +kernel
theorem dX12_stand_41 : decode cX12_stand 41 = .ok (.iload_n 1, 1) := by decide +kernel
theorem dX12_stand_42 : decode cX12_stand 42 = .ok (.iastore, 1) := by decide +kernel
theorem dX12_stand_43 : decode cX12_stand 43 = .ok (.aload_n 0, 1) := by decide +kernel
theorem dX12_stand_44 : decode cX12_stand 44 = .ok (.dup, 1) := by decide +kernel
theorem dX12_stand_45 : decode cX12_stand 45 = .ok (.getfield 153, 3) := by decide +kernel
theorem dX12_stand_48 : decode cX12_stand 48 = .ok (.iconst 1, 1) := by decide +kernel
theorem dX12_stand_49 : decode cX12_stand 49 = .ok (.iadd, 1) := by decide +kernel
theorem dX12_stand_50 : decode cX12_stand 50 = .ok (.putfield 153, 3) := by decide +kernel
theorem dX12_stand_53 : decode cX12_stand 53 = .ok (.aload_n 0, 1) := by decide +kernel
theorem dX12_stand_54 : decode cX12_stand 54 = .ok (.getfield 153, 3) := by decide +kernel
theorem dX12_stand_57 : decode cX12_stand 57 = .ok (.i2l, 1) := by decide +kernel
theorem dX12_stand_58 : decode cX12_stand 58 = .ok (.lreturn, 1) := by decide +kernel
set_option maxRecDepth 20000 in
set_option maxRecDepth 100000 in
theorem ggX12_order_X12_isIn : GoodIn wsX12_order wsX12_isIn := goodIn_r _ [7] rfl (by decide +kernel)
set_option maxRecDepth 20000 in
theorem gX12_order_X12_isIn : GoodIn wsX12_order (va_wsS RX12 57 yX12_isIn wsX12_isIn) := goodIn_app (goodIn_of _ (by decide +kernel)) ggX12_order_X12_isIn
theorem dX12_order_0 : decode cX12_order 0 = .ok (.iload_n 1, 1) := by decide +kernel
theorem dX12_order_1 : decode cX12_order 1 = .ok (.i2l, 1) := by decide +kernel
theorem dX12_order_2 : decode cX12_order 2 = .ok (.lconst 0, 1) := by decide +kernel
theorem dX12_order_3 : decode cX12_order 3 = .ok (.aload_n 0, 1) := by decide +kernel
theorem dX12_order_4 : decode cX12_order 4 = .ok (.getfield 153, 3) := by decide +kernel
theorem dX12_order_7 : decode cX12_order 7 = .ok (.iconst 1, 1) := by decide +kernel
theorem dX12_order_8 : decode cX12_order 8 = .ok (.isub, 1) := by decide +kernel
theorem dX12_order_9 : decode cX12_order 9 = .ok (.i2l, 1) := by decide +kernel
theorem dX12_order_10 : decode cX12_order 10 = .ok (.invokestatic 57, 3) := by decide +kernel
theorem dX12_order_13 : decode cX12_order 13 = .ok (.ifCond .eq 13, 3) := by decide +kernel
theorem dX12_order_16 : decode cX12_order 16 = .ok (.aload_n 0, 1) := by decide +kernel
theorem dX12_order_17 : decode cX12_order 17 = .ok (.getfield 16, 3) := by decide +kernel
theorem dX12_order_20 : decode cX12_order 20 = .ok (.iload_n 1, 1) := by decide +kernel
theorem dX12_order_21 : decode cX12_order 21 = .ok (.iaload, 1) := by decide +kernel
theorem dX12_order_22 : decode cX12_order 22 = .ok (.i2l, 1) := by decide +kernel
theorem dX12_order_23 : decode cX12_order 23 = .ok (.goto 6, 3) := by decide +kernel
theorem dX12_order_26 : decode cX12_order 26 = .ok (.ldc2_w 72, 3) := by decide +kernel
theorem dX12_order_29 : decode cX12_order 29 = .ok (.lreturn, 1) := by decide +kernel
theorem dX12_shift_0 : decode cX12_shift 0 = .ok (.aload_n 0, 1) := by decide +kernel
theorem dX12_shift_1 : decode cX12_shift 1 = .ok (.getfield 16, 3) := by decide +kernel
theorem dX12_shift_4 : decode cX12_shift 4 = .ok (.iload_n 1, 1) := by decide +kernel
theorem dX12_shift_5 : decode cX12_shift 5 = .ok (.iaload, 1) := by decide +kernel
theorem dX12_shift_6 : decode cX12_shift 6 = .ok (.istore_n 3, 1) := by decide +kernel
theorem dX12_shift_7 : decode cX12_shift 7 = .ok (.iload_n 1, 1) := by decide +kernel
theorem dX12_shift_8 : decode cX12_shift 8 = .ok (.iload_n 2, 1) := by decide +kernel
theorem dX12_shift_9 : decode cX12_shift 9 = .ok (.if_icmp .ge 7, 3) := by decide +kernel
theorem dX12_shift_12 : decode cX12_shift 12 = .ok (.iconst 1, 1) := by decide +kernel
theorem dX12_shift_13 : decode cX12_shift 13 = .ok (.goto 4, 3) := by decide +kernel
theorem dX12_shift_16 : decode cX12_shift 16 = .ok (.iconst (-1), 1) := by decide +kernel
theorem dX12_shift_17 : decode cX12_shift 17 = .ok (.istore 4, 2) := by decide +kernel
theorem dX12_shift_19 : decode cX12_shift 19 = .ok (.iload_n 1, 1) := by decide +kernel
theorem dX12_shift_20 : decode cX12_shift 20 = .ok (.istore 5, 2) := by decide +kernel
theorem dX12_shift_22 : decode cX12_shift 22 = .ok (.iload 5, 2) := by decide +kernel
theorem dX12_shift_24 : decode cX12_shift 24 = .ok (.iload_n 2, 1) := by decide +kernel
theorem dX12_shift_25 : decode cX12_shift 25 = .ok (.if_icmp .eq 30, 3) := by decide +kernel
theorem dX12_shift_28 : decode cX12_shift 28 = .ok (.aload_n 0, 1) := by decide +kernel
theorem dX12_shift_29 : decode cX12_shift 29 = .ok (.getfield 16, 3) := by decide +kernel
theorem dX12_shift_32 : decode cX12_shift 32 = .ok (.iload 5, 2) := by decide +kernel
theorem dX12_shift_34 : decode cX12_shift 34 = .ok (.aload_n 0, 1) := by decide +kernel
theorem dX12_shift_35 : decode cX12_shift 35 = .ok (.getfield 16, 3) := by decide +kernel
theorem dX12_shift_38 : decode cX12_shift 38 = .ok (.iload 5, 2) := by decide +kernel
theorem dX12_shift_40 : decode cX12_shift 40 = .ok (.iload 4, 2) := by decide +kernel
theorem dX12_shift_42 : decode cX12_shift 42 = .ok (.iadd, 1) := by decide +kernel
theorem dX12_shift_43 : decode cX12_shift 43 = .ok (.iaload, 1) := by decide +kernel
theorem dX12_shift_44 : decode cX12_shift 44 = .ok (.iastore, 1) := by decide +kernel
theorem dX12_shift_45 : decode cX12_shift 45 = .ok (.iload 5, 2) := by decide +kernel
theorem dX12_shift_47 : decode cX12_shift 47 = .ok (.iload 4, 2) := by decide +kernel
theorem dX12_shift_49 : decode cX12_shift 49 = .ok (.iadd, 1) := by decide +kernel
theorem dX12_shift_50 : decode cX12_shift 50 = .ok (.istore 5, 2) := by decide +kernel
theorem dX12_shift_52 : decode cX12_shift 52 = .ok (.goto (-30), 3) := by decide +kernel
theorem dX12_shift_55 : decode cX12_shift 55 = .ok (.aload_n 0, 1) := by decide +kernel
theorem dX12_shift_56 : decode cX12_shift 56 = .ok (.getfield 16, 3) := by decide +kernel
theorem dX12_shift_59 : decode cX12_shift 59 = .ok (.iload_n 2, 1) := by decide +kernel
theorem dX12_shift_60 : decode cX12_shift 60 = .ok (.iload_n 3, 1) := by decide +kernel
theorem dX12_shift_61 : decode cX12_shift 61 = .ok (.iastore, 1) := by decide +kernel
theorem dX12_shift_62 : decode cX12_shift 62 = .ok (.return_, 1) := by decide +kernel
set_option maxRecDepth 20000 in
set_option maxRecDepth 100000 in
theorem ggX12_move_X12_isIn : GoodIn wsX12_move wsX12_isIn := goodIn_r _ [6] rfl (by decide +kernel)
set_option maxRecDepth 20000 in
theorem gX12_move_X12_isIn : GoodIn wsX12_move (va_wsS RX12 57 yX12_isIn wsX12_isIn) := goodIn_app (goodIn_of _ (by decide +kernel)) ggX12_move_X12_isIn
set_option maxRecDepth 20000 in
set_option maxRecDepth 100000 in
theorem ggX12_move_X12_shift : GoodIn wsX12_move wsX12_shift := goodIn_r _ [10, 11, 12, 13, 14, 15, 16, 17, 18, 19, 20, 21, 22, 23, 24, 25, 26, 27, 28, 29] rfl (by decide +kernel)
set_option maxRecDepth 20000 in
theorem gX12_move_X12_shift : GoodIn wsX12_move (wsV RX12 182 RX12 yX12_shift wsX12_shift) := goodIn_app (goodIn_of _ (by decide +kernel)) ggX12_move_X12_shift
theorem dX12_move_0 : decode cX12_move 0 = .ok (.iload_n 1, 1) := by decide +kernel
theorem dX12_move_1 : decode cX12_move 1 = .ok (.i2l, 1) := by decide +kernel
theorem dX12_move_2 : decode cX12_move 2 = .ok (.lconst 0, 1) := by decide +kernel
theorem dX12_move_3 : decode cX12_move 3 = .ok (.aload_n 0, 1) := by decide +kernel
theorem dX12_move_4 : decode cX12_move 4 = .ok (.getfield 153, 3) := by decide +kernel
theorem dX12_move_7 : decode cX12_move 7 = .ok (.iconst 1, 1) := by decide +kernel
theorem dX12_move_8 : decode cX12_move 8 = .ok (.isub, 1) := by decide +kernel
theorem dX12_move_9 : decode cX12_move 9 = .ok (.i2l, 1) := by decide +kernel
theorem dX12_move_10 : decode cX12_move 10 = .ok (.invokestatic 57, 3) := by decide +kernel
theorem dX12_move_13 : decode cX12_move 13 = .ok (.ifCond .eq 19, 3) := by decide +kernel
theorem dX12_move_16 : decode cX12_move 16 = .ok (.iload_n 2, 1) := by decide +kernel
theorem dX12_move_17 : decode cX12_move 17 = .ok (.i2l, 1) := by decide +kernel
theorem dX12_move_18 : decode cX12_move 18 = .ok (.lconst 0, 1) := by decide +kernel
theorem dX12_move_19 : decode cX12_move 19 = .ok (.aload_n 0, 1) := by decide +kernel
theorem dX12_move_20 : decode cX12_move 20 = .ok (.getfield 153, 3) := by decide +kernel
theorem dX12_move_23 : decode cX12_move 23 = .ok (.iconst 1, 1) := by decide +kernel
theorem dX12_move_24 : decode cX12_move 24 = .ok (.isub, 1) := by decide +kernel
theorem dX12_move_25 : decode cX12_move 25 = .ok (.i2l, 1) := by decide +kernel
theorem dX12_move_26 : decode cX12_move 26 = .ok (.invokestatic 57, 3) := by decide +kernel
theorem dX12_move_29 : decode cX12_move 29 = .ok (.ifCond .ne 7, 3) := by decide +kernel
theorem dX12_move_32 : decode cX12_move 32 = .ok (.ldc2_w 72, 3) := by decide +kernel
theorem dX12_move_35 : decode cX12_move 35 = .ok (.lreturn, 1) := by decide +kernel
theorem dX12_move_36 : decode cX12_move 36 = .ok (.aload_n 0, 1) := by decide +kernel
theorem dX12_move_37 : decode cX12_move 37 = .ok (.iload_n 1, 1) := by decide +kernel
theorem dX12_move_38 : decode cX12_move 38 = .ok (.iload_n 2, 1) := by decide +kernel
theorem dX12_move_39 : decode cX12_move 39 = .ok (.invokevirtual 182, 3) := by decide +kernel
theorem dX12_move_42 : decode cX12_move 42 = .ok (.lconst 0, 1) := by decide +kernel
theorem dX12_move_43 : decode cX12_move 43 = .ok (.lreturn, 1) := by decide +kernel
set_option maxRecDepth 20000 in
set_option maxRecDepth 100000 in
theorem ggX12_weightNow_X12_peckOf : GoodIn wsX12_weightNow wsX12_peckOf := goodIn_r _ [7, 8, 9, 10, 11, 12, 13, 14, 15, 16, 17, 18, 19, 20, 21, 22, 23, 24, 25, 26] rfl (by decide +kernel)
set_option maxRecDepth 20000 in
theorem gX12_weightNow_X12_peckOf : GoodIn wsX12_weightNow (wsV RX12 105 RX12 yX12_peckOf wsX12_peckOf) := goodIn_app (goodIn_of _ (by decide +kernel)) ggX12_weightNow_X12_peckOf
theorem dX12_weightNow_0 : decode cX12_weightNow 0 = .ok (.lconst 0, 1) := by decide +kernel
theorem dX12_weightNow_1 : decode cX12_weightNow 1 = .ok (.lstore_n 1, 1) := by decide +kernel
theorem dX12_weightNow_2 : decode cX12_weightNow 2 = .ok (.iconst 0, 1) := by decide +kernel
theorem dX12_weightNow_3 : decode cX12_weightNow 3 = .ok (.istore_n 3, 1) := by decide +kernel
theorem dX12_weightNow_4 : decode cX12_weightNow 4 = .ok (.iload_n 3, 1) := by decide +kernel
theorem dX12_weightNow_5 : decode cX12_weightNow 5 = .ok (.aload_n 0, 1) := by decide +kernel
theorem dX12_weightNow_6 : decode cX12_weightNow 6 = .ok (.getfield 153, 3) := by decide +kernel
theorem dX12_weightNow_9 : decode cX12_weightNow 9 = .ok (.if_icmp .ge 45, 3) := by decide +kernel
theorem dX12_weightNow_12 : decode cX12_weightNow 12 = .ok (.iconst 0, 1) := by decide +kernel
theorem dX12_weightNow_13 : decode cX12_weightNow 13 = .ok (.istore 4, 2) := by decide +kernel
theorem dX12_weightNow_15 : decode cX12_weightNow 15 = .ok (.iload 4, 2) := by decide +kernel
theorem dX12_weightNow_17 : decode cX12_weightNow 17 = .ok (.iload_n 3, 1) := by decide +kernel
theorem dX12_weightNow_18 : decode cX12_weightNow 18 = .ok (.if_icmp .ge 30, 3) := by decide +kernel
theorem dX12_weightNow_21 : decode cX12_weightNow 21 = .ok (.lload_n 1, 1) := by decide +kernel
theorem dX12_weightNow_22 : decode cX12_weightNow 22 = .ok (.aload_n 0, 1) := by decide +kernel
theorem dX12_weightNow_23 : decode cX12_weightNow 23 = .ok (.aload_n 0, 1) := by decide +kernel
theorem dX12_weightNow_24 : decode cX12_weightNow 24 = .ok (.getfield 16, 3) := by decide +kernel
theorem dX12_weightNow_27 : decode cX12_weightNow 27 = .ok (.iload_n 3, 1) := by decide +kernel
theorem dX12_weightNow_28 : decode cX12_weightNow 28 = .ok (.iaload, 1) := by decide +kernel
theorem dX12_weightNow_29 : decode cX12_weightNow 29 = .ok (.aload_n 0, 1) := by decide +kernel
theorem dX12_weightNow_30 : decode cX12_weightNow 30 = .ok (.getfield 16, 3) := by decide +kernel
theorem dX12_weightNow_33 : decode cX12_weightNow 33 = .ok (.iload 4, 2) := by decide +kernel
theorem dX12_weightNow_35 : decode cX12_weightNow 35 = .ok (.iaload, 1) := by decide +kernel
theorem dX12_weightNow_36 : decode cX12_weightNow 36 = .ok (.invokevirtual 105, 3) := by decide +kernel
theorem dX12_weightNow_39 : decode cX12_weightNow 39 = .ok (.i2l, 1) := by decide +kernel
theorem dX12_weightNow_40 : decode cX12_weightNow 40 = .ok (.ladd, 1) := by decide +kernel
theorem dX12_weightNow_41 : decode cX12_weightNow 41 = .ok (.lstore_n 1, 1) := by decide +kernel
theorem dX12_weightNow_42 : decode cX12_weightNow 42 = .ok (.iinc 4 1, 3) := by decide +kernel
theorem dX12_weightNow_45 : decode cX12_weightNow 45 = .ok (.goto (-30), 3) := by decide +kernel
theorem dX12_weightNow_48 : decode cX12_weightNow 48 = .ok (.iinc 3 1, 3) := by decide +kernel
theorem dX12_weightNow_51 : decode cX12_weightNow 51 = .ok (.goto (-47), 3) := by decide +kernel
theorem dX12_weightNow_54 : decode cX12_weightNow 54 = .ok (.lload_n 1, 1) := by decide +kernel
theorem dX12_weightNow_55 : decode cX12_weightNow 55 = .ok (.lreturn, 1) := by decide +kernel
set_option maxRecDepth 20000 in
set_option maxRecDepth 100000 in
theorem ggX12_weight_X12_isWhole : GoodIn wsX12_weight wsX12_isWhole := goodIn_r _ [6, 7, 8, 9, 10, 11, 5, 12, 13, 14, 15, 16, 17, 18, 19, 20, 21, 22, 23, 24, 25, 26, 27, 28, 29, 30, 31, 32, 41, 42, 43, 44, 45, 46, 47, 48, 49, 50, 51, 52, 53, 54, 55, 56, 57, 58] rfl (by decide +kernel)
set_option maxRecDepth 20000 in
theorem gX12_weight_X12_isWhole : GoodIn wsX12_weight (wsV RX12 159 RX12 yX12_isWhole wsX12_isWhole) := goodIn_app (goodIn_of _ (by decide +kernel)) ggX12_weight_X12_isWhole
set_option maxRecDepth 20000 in
set_option maxRecDepth 100000 in
theorem ggX12_weight_X12_weightNow : GoodIn wsX12_weight wsX12_weightNow := goodIn_r _ [36, 7, 8, 37, 38, 39, 5, 40, 17, 41, 42, 43, 44, 45, 46, 47, 48, 49, 50, 51, 52, 53, 54, 55, 56, 57, 58] rfl (by decide +kernel)
set_option maxRecDepth 20000 in
theorem gX12_weight_X12_weightNow : GoodIn wsX12_weight (wsV RX12 185 RX12 yX12_weightNow wsX12_weightNow) := goodIn_app (goodIn_of _ (by decide +kernel)) ggX12_weight_X12_weightNow
theorem dX12_weight_0 : decode cX12_weight 0 = .ok (.aload_n 0, 1) := by decide +kernel
theorem dX12_weight_1 : decode cX12_weight 1 = .ok (.invokevirtual 159, 3) := by decide +kernel
theorem dX12_weight_4 : decode cX12_weight 4 = .ok (.ifCond .eq 10, 3) := by decide +kernel
theorem dX12_weight_7 : decode cX12_weight 7 = .ok (.aload_n 0, 1) := by decide +kernel
theorem dX12_weight_8 : decode cX12_weight 8 = .ok (.invokevirtual 185, 3) := by decide +kernel
theorem dX12_weight_11 : decode cX12_weight 11 = .ok (.goto 6, 3) := by decide +kernel
theorem dX12_weight_14 : decode cX12_weight 14 = .ok (.ldc2_w 61, 3) := by decide +kernel
theorem dX12_weight_17 : decode cX12_weight 17 = .ok (.lreturn, 1) := by decide +kernel
set_option maxRecDepth 20000 in
set_option maxRecDepth 100000 in
theorem ggX12_faulty_X12_may : GoodIn wsX12_faulty wsX12_may := goodIn_r _ [7, 8, 9, 10, 6, 11, 12, 13, 14, 15, 16, 17, 18, 19, 20, 21, 22, 23, 24, 25, 26, 27, 28, 29, 30, 31, 32, 33, 34, 35, 36, 37, 38, 39, 40, 41, 42, 43, 44, 45, 46, 47, 48, 49, 50, 51, 52, 53, 54] rfl (by decide +kernel)
set_option maxRecDepth 20000 in
theorem gX12_faulty_X12_may : GoodIn wsX12_faulty (wsV RX12 127 RX12 yX12_may wsX12_may) := goodIn_app (goodIn_of _ (by decide +kernel)) ggX12_faulty_X12_may
theorem dX12_faulty_0 : decode cX12_faulty 0 = .ok (.iconst (-1), 1) := by decide +kernel
theorem dX12_faulty_1 : decode cX12_faulty 1 = .ok (.istore_n 1, 1) := by decide +kernel
theorem dX12_faulty_2 : decode cX12_faulty 2 = .ok (.iconst 0, 1) := by decide +kernel
theorem dX12_faulty_3 : decode cX12_faulty 3 = .ok (.istore_n 2, 1) := by decide +kernel
theorem dX12_faulty_4 : decode cX12_faulty 4 = .ok (.bipush 12, 2) := by decide +kernel
theorem dX12_faulty_6 : decode cX12_faulty 6 = .ok (.istore_n 3, 1) := by decide +kernel
theorem dX12_faulty_7 : decode cX12_faulty 7 = .ok (.iconst 0, 1) := by decide +kernel
theorem dX12_faulty_8 : decode cX12_faulty 8 = .ok (.istore 4, 2) := by decide +kernel
theorem dX12_faulty_10 : decode cX12_faulty 10 = .ok (.iload 4, 2) := by decide +kernel
theorem dX12_faulty_12 : decode cX12_faulty 12 = .ok (.aload_n 0, 1) := by decide +kernel
theorem dX12_faulty_13 : decode cX12_faulty 13 = .ok (.getfield 153, 3) := by decide +kernel
theorem dX12_faulty_16 : decode cX12_faulty 16 = .ok (.if_icmp .ge 68, 3) := by decide +kernel
theorem dX12_faulty_19 : decode cX12_faulty 19 = .ok (.aload_n 0, 1) := by decide +kernel
theorem dX12_faulty_20 : decode cX12_faulty 20 = .ok (.aload_n 0, 1) := by decide +kernel
theorem dX12_faulty_21 : decode cX12_faulty 21 = .ok (.getfield 16, 3) := by decide +kernel
theorem dX12_faulty_24 : decode cX12_faulty 24 = .ok (.iload 4, 2) := by decide +kernel
theorem dX12_faulty_26 : decode cX12_faulty 26 = .ok (.iaload, 1) := by decide +kernel
theorem dX12_faulty_27 : decode cX12_faulty 27 = .ok (.iload_n 2, 1) := by decide +kernel
theorem dX12_faulty_28 : decode cX12_faulty 28 = .ok (.iload_n 3, 1) := by decide +kernel
theorem dX12_faulty_29 : decode cX12_faulty 29 = .ok (.invokevirtual 127, 3) := by decide +kernel
theorem dX12_faulty_32 : decode cX12_faulty 32 = .ok (.ifCond .ne 26, 3) := by decide +kernel
theorem dX12_faulty_35 : decode cX12_faulty 35 = .ok (.iload_n 1, 1) := by decide +kernel
theorem dX12_faulty_36 : decode cX12_faulty 36 = .ok (.ifCond .lt 14, 3) := by decide +kernel
theorem dX12_faulty_39 : decode cX12_faulty 39 = .ok (.aload_n 0, 1) := by decide +kernel
theorem dX12_faulty_40 : decode cX12_faulty 40 = .ok (.getfield 16, 3) := by decide +kernel
theorem dX12_faulty_43 : decode cX12_faulty 43 = .ok (.iload 4, 2) := by decide +kernel
theorem dX12_faulty_45 : decode cX12_faulty 45 = .ok (.iaload, 1) := by decide +kernel
theorem dX12_faulty_46 : decode cX12_faulty 46 = .ok (.iload_n 1, 1) := by decide +kernel
theorem dX12_faulty_47 : decode cX12_faulty 47 = .ok (.if_icmp .ge 11, 3) := by decide +kernel
theorem dX12_faulty_50 : decode cX12_faulty 50 = .ok (.aload_n 0, 1) := by decide +kernel
theorem dX12_faulty_51 : decode cX12_faulty 51 = .ok (.getfield 16, 3) := by decide +kernel
theorem dX12_faulty_54 : decode cX12_faulty 54 = .ok (.iload 4, 2) := by decide +kernel
theorem dX12_faulty_56 : decode cX12_faulty 56 = .ok (.iaload, 1) := by decide +kernel
theorem dX12_faulty_57 : decode cX12_faulty 57 = .ok (.istore_n 1, 1) := by decide +kernel
theorem dX12_faulty_58 : decode cX12_faulty 58 = .ok (.iload_n 2, 1) := by decide +kernel
theorem dX12_faulty_59 : decode cX12_faulty 59 = .ok (.iconst 1, 1) := by decide +kernel
theorem dX12_faulty_60 : decode cX12_faulty 60 = .ok (.aload_n 0, 1) := by decide +kernel
theorem dX12_faulty_61 : decode cX12_faulty 61 = .ok (.getfield 16, 3) := by decide +kernel
theorem dX12_faulty_64 : decode cX12_faulty 64 = .ok (.iload 4, 2) := by decide +kernel
theorem dX12_faulty_66 : decode cX12_faulty 66 = .ok (.iaload, 1) := by decide +kernel
theorem dX12_faulty_67 : decode cX12_faulty 67 = .ok (.ishl, 1) := by decide +kernel
theorem dX12_faulty_68 : decode cX12_faulty 68 = .ok (.ior, 1) := by decide +kernel
theorem dX12_faulty_69 : decode cX12_faulty 69 = .ok (.istore_n 2, 1) := by decide +kernel
theorem dX12_faulty_70 : decode cX12_faulty 70 = .ok (.aload_n 0, 1) := by decide +kernel
theorem dX12_faulty_71 : decode cX12_faulty 71 = .ok (.getfield 16, 3) := by decide +kernel
theorem dX12_faulty_74 : decode cX12_faulty 74 = .ok (.iload 4, 2) := by decide +kernel
theorem dX12_faulty_76 : decode cX12_faulty 76 = .ok (.iaload, 1) := by decide +kernel
theorem dX12_faulty_77 : decode cX12_faulty 77 = .ok (.istore_n 3, 1) := by decide +kernel
theorem dX12_faulty_78 : decode cX12_faulty 78 = .ok (.iinc 4 1, 3) := by decide +kernel
theorem dX12_faulty_81 : decode cX12_faulty 81 = .ok (.goto (-71), 3) := by decide +kernel
theorem dX12_faulty_84 : decode cX12_faulty 84 = .ok (.iload_n 1, 1) := by decide +kernel
theorem dX12_faulty_85 : decode cX12_faulty 85 = .ok (.ireturn, 1) := by decide +kernel
set_option maxRecDepth 20000 in
set_option maxRecDepth 100000 in
theorem ggX12_fault_X12_isWhole : GoodIn wsX12_fault wsX12_isWhole := goodIn_r _ [7, 8, 9, 10, 11, 12, 6, 13, 14, 15, 16, 17, 18, 19, 20, 21, 22, 23, 24, 25, 26, 27, 28, 29, 30, 31, 32, 33, 51, 52, 53, 54, 55, 56, 57, 58, 59, 60, 61, 62, 63, 64, 65, 66, 67, 68] rfl (by decide +kernel)
set_option maxRecDepth 20000 in
theorem gX12_fault_X12_isWhole : GoodIn wsX12_fault (wsV RX12 159 RX12 yX12_isWhole wsX12_isWhole) := goodIn_app (goodIn_of _ (by decide +kernel)) ggX12_fault_X12_isWhole
set_option maxRecDepth 20000 in
set_option maxRecDepth 100000 in
theorem ggX12_fault_X12_faulty : GoodIn wsX12_fault wsX12_faulty := goodIn_r _ [37, 8, 9, 38, 39, 40, 6, 41, 42, 43, 44, 45, 46, 30, 31, 32, 33, 18, 27, 28, 29, 19, 20, 21, 22, 23, 24, 25, 26, 14, 15, 16, 17, 47, 48, 49, 50, 51, 52, 53, 54, 55, 56, 57, 58, 59, 60, 61, 62, 63, 64, 65, 66, 67, 68] rfl (by decide +kernel)
set_option maxRecDepth 20000 in
theorem gX12_fault_X12_faulty : GoodIn wsX12_fault (wsV RX12 189 RX12 yX12_faulty wsX12_faulty) := goodIn_app (goodIn_of _ (by decide +kernel)) ggX12_fault_X12_faulty
theorem dX12_fault_0 : decode cX12_fault 0 = .ok (.aload_n 0, 1) := by decide +kernel
theorem dX12_fault_1 : decode cX12_fault 1 = .ok (.invokevirtual 159, 3) := by decide +kernel
theorem dX12_fault_4 : decode cX12_fault 4 = .ok (.ifCond .ne 7, 3) := by decide +kernel
theorem dX12_fault_7 : decode cX12_fault 7 = .ok (.ldc2_w 61, 3) := by decide +kernel
theorem dX12_fault_10 : decode cX12_fault 10 = .ok (.lreturn, 1) := by decide +kernel
theorem dX12_fault_11 : decode cX12_fault 11 = .ok (.aload_n 0, 1) := by decide +kernel
theorem dX12_fault_12 : decode cX12_fault 12 = .ok (.invokevirtual 189, 3) := by decide +kernel
theorem dX12_fault_15 : decode cX12_fault 15 = .ok (.ifCond .ge 9, 3) := by decide +kernel
theorem dX12_fault_18 : decode cX12_fault 18 = .ok (.ldc2_w 112, 3) := by decide +kernel
theorem dX12_fault_21 : decode cX12_fault 21 = .ok (.goto 8, 3) := by decide +kernel
theorem dX12_fault_24 : decode cX12_fault 24 = .ok (.aload_n 0, 1) := by decide +kernel
theorem dX12_fault_25 : decode cX12_fault 25 = .ok (.invokevirtual 189, 3) := by decide +kernel
theorem dX12_fault_28 : decode cX12_fault 28 = .ok (.i2l, 1) := by decide +kernel
theorem dX12_fault_29 : decode cX12_fault 29 = .ok (.lreturn, 1) := by decide +kernel
set_option maxRecDepth 20000 in
set_option maxRecDepth 100000 in
theorem ggX12_betters_X12_weightNow : GoodIn wsX12_betters wsX12_weightNow := goodIn_r _ [7, 1, 2, 8, 9, 10, 6, 11, 12, 53, 54, 55, 56, 57, 58, 59, 60, 61, 62, 63, 64, 65, 66, 67, 68, 69, 70] rfl (by decide +kernel)
set_option maxRecDepth 20000 in
theorem gX12_betters_X12_weightNow : GoodIn wsX12_betters (wsV RX12 185 RX12 yX12_weightNow wsX12_weightNow) := goodIn_app (goodIn_of _ (by decide +kernel)) ggX12_betters_X12_weightNow
set_option maxRecDepth 20000 in
set_option maxRecDepth 100000 in
theorem ggX12_betters_X12_shift : GoodIn wsX12_betters wsX12_shift := goodIn_r _ [16, 2, 53, 54, 55, 56, 57, 58, 59, 60, 61, 62, 63, 64, 65, 66, 67, 68, 69, 70] rfl (by decide +kernel)
set_option maxRecDepth 20000 in
theorem gX12_betters_X12_shift : GoodIn wsX12_betters (wsV RX12 182 RX12 yX12_shift wsX12_shift) := goodIn_app (goodIn_of _ (by decide +kernel)) ggX12_betters_X12_shift
set_option maxRecDepth 20000 in
set_option maxRecDepth 100000 in
theorem ggX12_betters_X12_faulty : GoodIn wsX12_betters wsX12_faulty := goodIn_r _ [20, 1, 2, 21, 22, 23, 6, 24, 25, 26, 27, 28, 29, 30, 31, 32, 33, 12, 34, 35, 36, 37, 38, 39, 40, 41, 42, 43, 44, 45, 46, 47, 48, 49, 50, 51, 52, 53, 54, 55, 56, 57, 58, 59, 60, 61, 62, 63, 64, 65, 66, 67, 68, 69, 70] rfl (by decide +kernel)
set_option maxRecDepth 20000 in
theorem gX12_betters_X12_faulty : GoodIn wsX12_betters (wsV RX12 189 RX12 yX12_faulty wsX12_faulty) := goodIn_app (goodIn_of _ (by decide +kernel)) ggX12_betters_X12_faulty
theorem dX12_betters_0 : decode cX12_betters 0 = .ok (.aload_n 0, 1) := by decide +kernel
theorem dX12_betters_1 : decode cX12_betters 1 = .ok (.invokevirtual 185, 3) := by decide +kernel
theorem dX12_betters_4 : decode cX12_betters 4 = .ok (.lstore_n 1, 1) := by decide +kernel
theorem dX12_betters_5 : decode cX12_betters 5 = .ok (.iconst (-1), 1) := by decide +kernel
theorem dX12_betters_6 : decode cX12_betters 6 = .ok (.istore_n 3, 1) := by decide +kernel
theorem dX12_betters_7 : decode cX12_betters 7 = .ok (.iconst (-1), 1) := by decide +kernel
theorem dX12_betters_8 : decode cX12_betters 8 = .ok (.istore 4, 2) := by decide +kernel
theorem dX12_betters_10 : decode cX12_betters 10 = .ok (.iconst 0, 1) := by decide +kernel
theorem dX12_betters_11 : decode cX12_betters 11 = .ok (.istore 5, 2) := by decide +kernel
theorem dX12_betters_13 : decode cX12_betters 13 = .ok (.iload 5, 2) := by decide +kernel
theorem dX12_betters_15 : decode cX12_betters 15 = .ok (.aload_n 0, 1) := by decide +kernel
theorem dX12_betters_16 : decode cX12_betters 16 = .ok (.getfield 153, 3) := by decide +kernel
theorem dX12_betters_19 : decode cX12_betters 19 = .ok (.if_icmp .ge 153, 3) := by decide +kernel
theorem dX12_betters_22 : decode cX12_betters 22 = .ok (.iconst 0, 1) := by decide +kernel
theorem dX12_betters_23 : decode cX12_betters 23 = .ok (.istore 6, 2) := by decide +kernel
theorem dX12_betters_25 : decode cX12_betters 25 = .ok (.iload 6, 2) := by decide +kernel
theorem dX12_betters_27 : decode cX12_betters 27 = .ok (.aload_n 0, 1) := by decide +kernel
theorem dX12_betters_28 : decode cX12_betters 28 = .ok (.getfield 153, 3) := by decide +kernel
theorem dX12_betters_31 : decode cX12_betters 31 = .ok (.if_icmp .ge 135, 3) := by decide +kernel
theorem dX12_betters_34 : decode cX12_betters 34 = .ok (.aload_n 0, 1) := by decide +kernel
theorem dX12_betters_35 : decode cX12_betters 35 = .ok (.getfield 16, 3) := by decide +kernel
theorem dX12_betters_38 : decode cX12_betters 38 = .ok (.iload 5, 2) := by decide +kernel
theorem dX12_betters_40 : decode cX12_betters 40 = .ok (.iaload, 1) := by decide +kernel
theorem dX12_betters_41 : decode cX12_betters 41 = .ok (.istore 7, 2) := by decide +kernel
theorem dX12_betters_43 : decode cX12_betters 43 = .ok (.aload_n 0, 1) := by decide +kernel
theorem dX12_betters_44 : decode cX12_betters 44 = .ok (.iload 5, 2) := by decide +kernel
theorem dX12_betters_46 : decode cX12_betters 46 = .ok (.iload 6, 2) := by decide +kernel
theorem dX12_betters_48 : decode cX12_betters 48 = .ok (.invokevirtual 182, 3) := by decide +kernel
theorem dX12_betters_51 : decode cX12_betters 51 = .ok (.aload_n 0, 1) := by decide +kernel
theorem dX12_betters_52 : decode cX12_betters 52 = .ok (.invokevirtual 185, 3) := by decide +kernel
theorem dX12_betters_55 : decode cX12_betters 55 = .ok (.lstore 8, 2) := by decide +kernel
theorem dX12_betters_57 : decode cX12_betters 57 = .ok (.aload_n 0, 1) := by decide +kernel
theorem dX12_betters_58 : decode cX12_betters 58 = .ok (.invokevirtual 189, 3) := by decide +kernel
theorem dX12_betters_61 : decode cX12_betters 61 = .ok (.ifCond .ge 7, 3) := by decide +kernel
theorem dX12_betters_64 : decode cX12_betters 64 = .ok (.iconst 1, 1) := by decide +kernel
theorem dX12_betters_65 : decode cX12_betters 65 = .ok (.goto 4, 3) := by decide +kernel
theorem dX12_betters_68 : decode cX12_betters 68 = .ok (.iconst 0, 1) := by decide +kernel
theorem dX12_betters_69 : decode cX12_betters 69 = .ok (.istore 10, 2) := by decide +kernel
theorem dX12_betters_71 : decode cX12_betters 71 = .ok (.aload_n 0, 1) := by decide +kernel
theorem dX12_betters_72 : decode cX12_betters 72 = .ok (.iload 6, 2) := by decide +kernel
theorem dX12_betters_74 : decode cX12_betters 74 = .ok (.iload 5, 2) := by decide +kernel
theorem dX12_betters_76 : decode cX12_betters 76 = .ok (.invokevirtual 182, 3) := by decide +kernel
theorem dX12_betters_79 : decode cX12_betters 79 = .ok (.iload_n 3, 1) := by decide +kernel
theorem dX12_betters_80 : decode cX12_betters 80 = .ok (.ifCond .lt 43, 3) := by decide +kernel
theorem dX12_betters_83 : decode cX12_betters 83 = .ok (.lload 8, 2) := by decide +kernel
theorem dX12_betters_85 : decode cX12_betters 85 = .ok (.lload_n 1, 1) := by decide +kernel
theorem dX12_betters_86 : decode cX12_betters 86 = .ok (.lcmp, 1) := by decide +kernel
theorem dX12_betters_87 : decode cX12_betters 87 = .ok (.ifCond .ne 36, 3) := by decide +kernel
theorem dX12_betters_90 : decode cX12_betters 90 = .ok (.iload 7, 2) := by decide +kernel
theorem dX12_betters_92 : decode cX12_betters 92 = .ok (.aload_n 0, 1) := by decide +kernel
theorem dX12_betters_93 : decode cX12_betters 93 = .ok (.getfield 16, 3) := by decide +kernel
theorem dX12_betters_96 : decode cX12_betters 96 = .ok (.iload_n 3, 1) := by decide +kernel
theorem dX12_betters_97 : decode cX12_betters 97 = .ok (.iaload, 1) := by decide +kernel
theorem dX12_betters_98 : decode cX12_betters 98 = .ok (.if_icmp .lt 21, 3) := by decide +kernel
theorem dX12_betters_101 : decode cX12_betters 101 = .ok (.iload 7, 2) := by decide +kernel
theorem dX12_betters_103 : decode cX12_betters 103 = .ok (.aload_n 0, 1) := by decide +kernel
theorem dX12_betters_104 : decode cX12_betters 104 = .ok (.getfield 16, 3) := by decide +kernel
theorem dX12_betters_107 : decode cX12_betters 107 = .ok (.iload_n 3, 1) := by decide +kernel
theorem dX12_betters_108 : decode cX12_betters 108 = .ok (.iaload, 1) := by decide +kernel
theorem dX12_betters_109 : decode cX12_betters 109 = .ok (.if_icmp .ne 14, 3) := by decide +kernel
theorem dX12_betters_112 : decode cX12_betters 112 = .ok (.iload 6, 2) := by decide +kernel
theorem dX12_betters_114 : decode cX12_betters 114 = .ok (.iload 4, 2) := by decide +kernel
theorem dX12_betters_116 : decode cX12_betters 116 = .ok (.if_icmp .ge 7, 3) := by decide +kernel
theorem dX12_betters_119 : decode cX12_betters 119 = .ok (.iconst 1, 1) := by decide +kernel
theorem dX12_betters_120 : decode cX12_betters 120 = .ok (.goto 4, 3) := by decide +kernel
theorem dX12_betters_123 : decode cX12_betters 123 = .ok (.iconst 0, 1) := by decide +kernel
theorem dX12_betters_124 : decode cX12_betters 124 = .ok (.istore 11, 2) := by decide +kernel
theorem dX12_betters_126 : decode cX12_betters 126 = .ok (.iload 5, 2) := by decide +kernel
theorem dX12_betters_128 : decode cX12_betters 128 = .ok (.iload 6, 2) := by decide +kernel
theorem dX12_betters_130 : decode cX12_betters 130 = .ok (.if_icmp .eq 30, 3) := by decide +kernel
theorem dX12_betters_133 : decode cX12_betters 133 = .ok (.iload 10, 2) := by decide +kernel
theorem dX12_betters_135 : decode cX12_betters 135 = .ok (.ifCond .eq 25, 3) := by decide +kernel
theorem dX12_betters_138 : decode cX12_betters 138 = .ok (.lload 8, 2) := by decide +kernel
theorem dX12_betters_140 : decode cX12_betters 140 = .ok (.lload_n 1, 1) := by decide +kernel
theorem dX12_betters_141 : decode cX12_betters 141 = .ok (.lcmp, 1) := by decide +kernel
theorem dX12_betters_142 : decode cX12_betters 142 = .ok (.ifCond .lt 8, 3) := by decide +kernel
theorem dX12_betters_145 : decode cX12_betters 145 = .ok (.iload 11, 2) := by decide +kernel
theorem dX12_betters_147 : decode cX12_betters 147 = .ok (.ifCond .eq 13, 3) := by decide +kernel
theorem dX12_betters_150 : decode cX12_betters 150 = .ok (.lload 8, 2) := by decide +kernel
theorem dX12_betters_152 : decode cX12_betters 152 = .ok (.lstore_n 1, 1) := by decide +kernel
theorem dX12_betters_153 : decode cX12_betters 153 = .ok (.iload 5, 2) := by decide +kernel
theorem dX12_betters_155 : decode cX12_betters 155 = .ok (.istore_n 3, 1) := by decide +kernel
theorem dX12_betters_156 : decode cX12_betters 156 = .ok (.iload 6, 2) := by decide +kernel
theorem dX12_betters_158 : decode cX12_betters 158 = .ok (.istore 4, 2) := by decide +kernel
theorem dX12_betters_160 : decode cX12_betters 160 = .ok (.iinc 6 1, 3) := by decide +kernel
theorem dX12_betters_163 : decode cX12_betters 163 = .ok (.goto (-138), 3) := by decide +kernel
theorem dX12_betters_166 : decode cX12_betters 166 = .ok (.iinc 5 1, 3) := by decide +kernel
theorem dX12_betters_169 : decode cX12_betters 169 = .ok (.goto (-156), 3) := by decide +kernel
theorem dX12_betters_172 : decode cX12_betters 172 = .ok (.iload_n 3, 1) := by decide +kernel
theorem dX12_betters_173 : decode cX12_betters 173 = .ok (.ifCond .lt 10, 3) := by decide +kernel
theorem dX12_betters_176 : decode cX12_betters 176 = .ok (.aload_n 0, 1) := by decide +kernel
theorem dX12_betters_177 : decode cX12_betters 177 = .ok (.iload_n 3, 1) := by decide +kernel
theorem dX12_betters_178 : decode cX12_betters 178 = .ok (.iload 4, 2) := by decide +kernel
theorem dX12_betters_180 : decode cX12_betters 180 = .ok (.invokevirtual 182, 3) := by decide +kernel
theorem dX12_betters_183 : decode cX12_betters 183 = .ok (.iload_n 3, 1) := by decide +kernel
theorem dX12_betters_184 : decode cX12_betters 184 = .ok (.ifCond .lt 7, 3) := by decide +kernel
theorem dX12_betters_187 : decode cX12_betters 187 = .ok (.iconst 1, 1) := by decide +kernel
theorem dX12_betters_188 : decode cX12_betters 188 = .ok (.goto 4, 3) := by decide +kernel
theorem dX12_betters_191 : decode cX12_betters 191 = .ok (.iconst 0, 1) := by decide +kernel
theorem dX12_betters_192 : decode cX12_betters 192 = .ok (.ireturn, 1) := by decide +kernel
set_option maxRecDepth 20000 in
set_option maxRecDepth 100000 in
theorem ggX12_better_X12_isIn : GoodIn wsX12_better wsX12_isIn := goodIn_r _ [7] rfl (by decide +kernel)
set_option maxRecDepth 20000 in
theorem gX12_better_X12_isIn : GoodIn wsX12_better (va_wsS RX12 57 yX12_isIn wsX12_isIn) := goodIn_app (goodIn_of _ (by decide +kernel)) ggX12_better_X12_isIn
set_option maxRecDepth 20000 in
set_option maxRecDepth 100000 in
theorem ggX12_better_X12_isWhole : GoodIn wsX12_better wsX12_isWhole := goodIn_r _ [11, 12, 13, 14, 15, 16, 6, 17, 18, 19, 20, 21, 22, 23, 24, 25, 26, 27, 28, 29, 30, 4, 5, 7, 31, 32, 33, 34, 68, 69, 70, 71, 72, 73, 74, 75, 76, 77, 78, 79, 80, 81, 82, 83, 84, 85] rfl (by decide +kernel)
set_option maxRecDepth 20000 in
theorem gX12_better_X12_isWhole : GoodIn wsX12_better (wsV RX12 159 RX12 yX12_isWhole wsX12_isWhole) := goodIn_app (goodIn_of _ (by decide +kernel)) ggX12_better_X12_isWhole
set_option maxRecDepth 20000 in
set_option maxRecDepth 100000 in
theorem ggX12_better_X12_betters : GoodIn wsX12_better wsX12_betters := goodIn_r _ [38, 12, 13, 39, 40, 41, 6, 42, 43, 44, 45, 46, 22, 47, 48, 49, 50, 51, 52, 53, 54, 55, 56, 57, 58, 59, 60, 61, 62, 63, 31, 32, 33, 34, 4, 5, 7, 23, 24, 25, 26, 27, 28, 29, 30, 18, 19, 20, 21, 64, 65, 66, 67, 68, 69, 70, 71, 72, 73, 74, 75, 76, 77, 78, 79, 80, 81, 82, 83, 84, 85] rfl (by decide +kernel)
set_option maxRecDepth 20000 in
theorem gX12_better_X12_betters : GoodIn wsX12_better (wsV RX12 194 RX12 yX12_betters wsX12_betters) := goodIn_app (goodIn_of _ (by decide +kernel)) ggX12_better_X12_betters
theorem dX12_better_0 : decode cX12_better 0 = .ok (.iload_n 1, 1) := by decide +kernel
theorem dX12_better_1 : decode cX12_better 1 = .ok (.i2l, 1) := by decide +kernel
theorem dX12_better_2 : decode cX12_better 2 = .ok (.lconst 1, 1) := by decide +kernel
theorem dX12_better_3 : decode cX12_better 3 = .ok (.ldc2_w 192, 3) := by decide +kernel
theorem dX12_better_6 : decode cX12_better 6 = .ok (.invokestatic 57, 3) := by decide +kernel
theorem dX12_better_9 : decode cX12_better 9 = .ok (.ifCond .ne 7, 3) := by decide +kernel
theorem dX12_better_12 : decode cX12_better 12 = .ok (.ldc2_w 72, 3) := by decide +kernel
theorem dX12_better_15 : decode cX12_better 15 = .ok (.lreturn, 1) := by decide +kernel
theorem dX12_better_16 : decode cX12_better 16 = .ok (.aload_n 0, 1) := by decide +kernel
theorem dX12_better_17 : decode cX12_better 17 = .ok (.invokevirtual 159, 3) := by decide +kernel
theorem dX12_better_20 : decode cX12_better 20 = .ok (.ifCond .ne 7, 3) := by decide +kernel
theorem dX12_better_23 : decode cX12_better 23 = .ok (.ldc2_w 61, 3) := by decide +kernel
theorem dX12_better_26 : decode cX12_better 26 = .ok (.lreturn, 1) := by decide +kernel
theorem dX12_better_27 : decode cX12_better 27 = .ok (.iconst 0, 1) := by decide +kernel
theorem dX12_better_28 : decode cX12_better 28 = .ok (.istore_n 2, 1) := by decide +kernel
theorem dX12_better_29 : decode cX12_better 29 = .ok (.iload_n 2, 1) := by decide +kernel
theorem dX12_better_30 : decode cX12_better 30 = .ok (.iload_n 1, 1) := by decide +kernel
theorem dX12_better_31 : decode cX12_better 31 = .ok (.if_icmp .ge 16, 3) := by decide +kernel
theorem dX12_better_34 : decode cX12_better 34 = .ok (.aload_n 0, 1) := by decide +kernel
theorem dX12_better_35 : decode cX12_better 35 = .ok (.invokevirtual 194, 3) := by decide +kernel
theorem dX12_better_38 : decode cX12_better 38 = .ok (.ifCond .eq 9, 3) := by decide +kernel
theorem dX12_better_41 : decode cX12_better 41 = .ok (.iinc 2 1, 3) := by decide +kernel
theorem dX12_better_44 : decode cX12_better 44 = .ok (.goto (-15), 3) := by decide +kernel
theorem dX12_better_47 : decode cX12_better 47 = .ok (.iload_n 2, 1) := by decide +kernel
theorem dX12_better_48 : decode cX12_better 48 = .ok (.i2l, 1) := by decide +kernel
theorem dX12_better_49 : decode cX12_better 49 = .ok (.lreturn, 1) := by decide +kernel
theorem dX12_turn_0 : decode cX12_turn 0 = .ok (.iconst 0, 1) := by decide +kernel
theorem dX12_turn_1 : decode cX12_turn 1 = .ok (.istore_n 1, 1) := by decide +kernel
theorem dX12_turn_2 : decode cX12_turn 2 = .ok (.iload_n 1, 1) := by decide +kernel
theorem dX12_turn_3 : decode cX12_turn 3 = .ok (.aload_n 0, 1) := by decide +kernel
theorem dX12_turn_4 : decode cX12_turn 4 = .ok (.getfield 153, 3) := by decide +kernel
theorem dX12_turn_7 : decode cX12_turn 7 = .ok (.iconst 2, 1) := by decide +kernel
theorem dX12_turn_8 : decode cX12_turn 8 = .ok (.idiv, 1) := by decide +kernel
theorem dX12_turn_9 : decode cX12_turn 9 = .ok (.if_icmp .ge 49, 3) := by decide +kernel
theorem dX12_turn_12 : decode cX12_turn 12 = .ok (.aload_n 0, 1) := by decide +kernel
theorem dX12_turn_13 : decode cX12_turn 13 = .ok (.getfield 16, 3) := by decide +kernel
theorem dX12_turn_16 : decode cX12_turn 16 = .ok (.iload_n 1, 1) := by decide +kernel
theorem dX12_turn_17 : decode cX12_turn 17 = .ok (.iaload, 1) := by decide +kernel
theorem dX12_turn_18 : decode cX12_turn 18 = .ok (.istore_n 2, 1) := by decide +kernel
theorem dX12_turn_19 : decode cX12_turn 19 = .ok (.aload_n 0, 1) := by decide +kernel
theorem dX12_turn_20 : decode cX12_turn 20 = .ok (.getfield 16, 3) := by decide +kernel
theorem dX12_turn_23 : decode cX12_turn 23 = .ok (.iload_n 1, 1) := by decide +kernel
theorem dX12_turn_24 : decode cX12_turn 24 = .ok (.aload_n 0, 1) := by decide +kernel
theorem dX12_turn_25 : decode cX12_turn 25 = .ok (.getfield 16, 3) := by decide +kernel
theorem dX12_turn_28 : decode cX12_turn 28 = .ok (.aload_n 0, 1) := by decide +kernel
theorem dX12_turn_29 : decode cX12_turn 29 = .ok (.getfield 153, 3) := by decide +kernel
theorem dX12_turn_32 : decode cX12_turn 32 = .ok (.iconst 1, 1) := by decide +kernel
theorem dX12_turn_33 : decode cX12_turn 33 = .ok (.isub, 1) := by decide +kernel
theorem dX12_turn_34 : decode cX12_turn 34 = .ok (.iload_n 1, 1) := by decide +kernel
theorem dX12_turn_35 : decode cX12_turn 35 = .ok (.isub, 1) := by decide +kernel
theorem dX12_turn_36 : decode cX12_turn 36 = .ok (.iaload, 1) := by decide +kernel
theorem dX12_turn_37 : decode cX12_turn 37 = .ok (.iastore, 1) := by decide +kernel
theorem dX12_turn_38 : decode cX12_turn 38 = .ok (.aload_n 0, 1) := by decide +kernel
theorem dX12_turn_39 : decode cX12_turn 39 = .ok (.getfield 16, 3) := by decide +kernel
theorem dX12_turn_42 : decode cX12_turn 42 = .ok (.aload_n 0, 1) := by decide +kernel
theorem dX12_turn_43 : decode cX12_turn 43 = .ok (.getfield 153, 3) := by decide +kernel
theorem dX12_turn_46 : decode cX12_turn 46 = .ok (.iconst 1, 1) := by decide +kernel
theorem dX12_turn_47 : decode cX12_turn 47 = .ok (.isub, 1) := by decide +kernel
theorem dX12_turn_48 : decode cX12_turn 48 = .ok (.iload_n 1, 1) := by decide +kernel
theorem dX12_turn_49 : decode cX12_turn 49 = .ok (.isub, 1) := by decide +kernel
theorem dX12_turn_50 : decode cX12_turn 50 = .ok (.iload_n 2, 1) := by decide +kernel
theorem dX12_turn_51 : decode cX12_turn 51 = .ok (.iastore, 1) := by decide +kernel
theorem dX12_turn_52 : decode cX12_turn 52 = .ok (.iinc 1 1, 3) := by decide +kernel
theorem dX12_turn_55 : decode cX12_turn 55 = .ok (.goto (-53), 3) := by decide +kernel
theorem dX12_turn_58 : decode cX12_turn 58 = .ok (.lconst 0, 1) := by decide +kernel
theorem dX12_turn_59 : decode cX12_turn 59 = .ok (.lreturn, 1) := by decide +kernel
set_option maxRecDepth 20000 in
set_option maxRecDepth 100000 in
theorem ggX12_findReach_X12_counts : GoodIn wsX12_findReach wsX12_counts := goodIn_r _ [6, 7, 8, 9, 10, 5, 11, 12, 13, 14, 15, 16, 17, 18, 19, 20, 21, 22, 27, 28, 29, 30, 31, 32, 33, 34, 35, 36, 37, 38, 39, 40, 41, 42, 43, 44] rfl (by decide +kernel)
set_option maxRecDepth 20000 in
theorem gX12_findReach_X12_counts : GoodIn wsX12_findReach (wsV RX12 109 RX12 yX12_counts wsX12_counts) := goodIn_app (goodIn_of _ (by decide +kernel)) ggX12_findReach_X12_counts
set_option maxRecDepth 20000 in
set_option maxRecDepth 100000 in
theorem ggX12_findReach_X12_peckOf : GoodIn wsX12_findReach wsX12_peckOf := goodIn_r _ [26, 7, 27, 28, 29, 30, 31, 32, 33, 34, 35, 36, 37, 38, 39, 40, 41, 42, 43, 44] rfl (by decide +kernel)
set_option maxRecDepth 20000 in
theorem gX12_findReach_X12_peckOf : GoodIn wsX12_findReach (wsV RX12 105 RX12 yX12_peckOf wsX12_peckOf) := goodIn_app (goodIn_of _ (by decide +kernel)) ggX12_findReach_X12_peckOf
theorem dX12_findReach_0 : decode cX12_findReach 0 = .ok (.iconst 0, 1) := by decide +kernel
theorem dX12_findReach_1 : decode cX12_findReach 1 = .ok (.istore_n 1, 1) := by decide +kernel
theorem dX12_findReach_2 : decode cX12_findReach 2 = .ok (.iload_n 1, 1) := by decide +kernel
theorem dX12_findReach_3 : decode cX12_findReach 3 = .ok (.bipush 12, 2) := by decide +kernel
theorem dX12_findReach_5 : decode cX12_findReach 5 = .ok (.if_icmp .ge 69, 3) := by decide +kernel
theorem dX12_findReach_8 : decode cX12_findReach 8 = .ok (.iconst 0, 1) := by decide +kernel
theorem dX12_findReach_9 : decode cX12_findReach 9 = .ok (.istore_n 2, 1) := by decide +kernel
theorem dX12_findReach_10 : decode cX12_findReach 10 = .ok (.iload_n 2, 1) := by decide +kernel
theorem dX12_findReach_11 : decode cX12_findReach 11 = .ok (.bipush 12, 2) := by decide +kernel
theorem dX12_findReach_13 : decode cX12_findReach 13 = .ok (.if_icmp .ge 55, 3) := by decide +kernel
theorem dX12_findReach_16 : decode cX12_findReach 16 = .ok (.aload_n 0, 1) := by decide +kernel
theorem dX12_findReach_17 : decode cX12_findReach 17 = .ok (.getfield 34, 3) := by decide +kernel
theorem dX12_findReach_20 : decode cX12_findReach 20 = .ok (.bipush 12, 2) := by decide +kernel
theorem dX12_findReach_22 : decode cX12_findReach 22 = .ok (.iload_n 1, 1) := by decide +kernel
theorem dX12_findReach_23 : decode cX12_findReach 23 = .ok (.imul, 1) := by decide +kernel
theorem dX12_findReach_24 : decode cX12_findReach 24 = .ok (.iload_n 2, 1) := by decide +kernel
theorem dX12_findReach_25 : decode cX12_findReach 25 = .ok (.iadd, 1) := by decide +kernel
theorem dX12_findReach_26 : decode cX12_findReach 26 = .ok (.iload_n 1, 1) := by decide +kernel
theorem dX12_findReach_27 : decode cX12_findReach 27 = .ok (.iload_n 2, 1) := by decide +kernel
theorem dX12_findReach_28 : decode cX12_findReach 28 = .ok (.if_icmp .eq 28, 3) := by decide +kernel
theorem dX12_findReach_31 : decode cX12_findReach 31 = .ok (.aload_n 0, 1) := by decide +kernel
theorem dX12_findReach_32 : decode cX12_findReach 32 = .ok (.iload_n 1, 1) := by decide +kernel
theorem dX12_findReach_33 : decode cX12_findReach 33 = .ok (.invokevirtual 109, 3) := by decide +kernel
theorem dX12_findReach_36 : decode cX12_findReach 36 = .ok (.ifCond .eq 24, 3) := by decide +kernel
theorem dX12_findReach_39 : decode cX12_findReach 39 = .ok (.aload_n 0, 1) := by decide +kernel
theorem dX12_findReach_40 : decode cX12_findReach 40 = .ok (.iload_n 2, 1) := by decide +kernel
theorem dX12_findReach_41 : decode cX12_findReach 41 = .ok (.invokevirtual 109, 3) := by decide +kernel
theorem dX12_findReach_44 : decode cX12_findReach 44 = .ok (.ifCond .eq 16, 3) := by decide +kernel
theorem dX12_findReach_47 : decode cX12_findReach 47 = .ok (.aload_n 0, 1) := by decide +kernel
theorem dX12_findReach_48 : decode cX12_findReach 48 = .ok (.iload_n 1, 1) := by decide +kernel
theorem dX12_findReach_49 : decode cX12_findReach 49 = .ok (.iload_n 2, 1) := by decide +kernel
theorem dX12_findReach_50 : decode cX12_findReach 50 = .ok (.invokevirtual 105, 3) := by decide +kernel
theorem dX12_findReach_53 : decode cX12_findReach 53 = .ok (.ifCond .le 7, 3) := by decide +kernel
theorem dX12_findReach_56 : decode cX12_findReach 56 = .ok (.iconst 1, 1) := by decide +kernel
theorem dX12_findReach_57 : decode cX12_findReach 57 = .ok (.goto 4, 3) := by decide +kernel
theorem dX12_findReach_60 : decode cX12_findReach 60 = .ok (.iconst 0, 1) := by decide +kernel
theorem dX12_findReach_61 : decode cX12_findReach 61 = .ok (.bastore, 1) := by decide +kernel
theorem dX12_findReach_62 : decode cX12_findReach 62 = .ok (.iinc 2 1, 3) := by decide +kernel
theorem dX12_findReach_65 : decode cX12_findReach 65 = .ok (.goto (-55), 3) := by decide +kernel
theorem dX12_findReach_68 : decode cX12_findReach 68 = .ok (.iinc 1 1, 3) := by decide +kernel
theorem dX12_findReach_71 : decode cX12_findReach 71 = .ok (.goto (-69), 3) := by decide +kernel
theorem dX12_findReach_74 : decode cX12_findReach 74 = .ok (.iconst 0, 1) := by decide +kernel
theorem dX12_findReach_75 : decode cX12_findReach 75 = .ok (.istore_n 1, 1) := by decide +kernel
theorem dX12_findReach_76 : decode cX12_findReach 76 = .ok (.iload_n 1, 1) := by decide +kernel
theorem dX12_findReach_77 : decode cX12_findReach 77 = .ok (.bipush 12, 2) := by decide +kernel
theorem dX12_findReach_79 : decode cX12_findReach 79 = .ok (.if_icmp .ge 95, 3) := by decide +kernel
theorem dX12_findReach_82 : decode cX12_findReach 82 = .ok (.iconst 0, 1) := by decide +kernel
theorem dX12_findReach_83 : decode cX12_findReach 83 = .ok (.istore_n 2, 1) := by decide +kernel
theorem dX12_findReach_84 : decode cX12_findReach 84 = .ok (.iload_n 2, 1) := by decide +kernel
theorem dX12_findReach_85 : decode cX12_findReach 85 = .ok (.bipush 12, 2) := by decide +kernel
theorem dX12_findReach_87 : decode cX12_findReach 87 = .ok (.if_icmp .ge 81, 3) := by decide +kernel
theorem dX12_findReach_90 : decode cX12_findReach 90 = .ok (.iconst 0, 1) := by decide +kernel
theorem dX12_findReach_91 : decode cX12_findReach 91 = .ok (.istore_n 3, 1) := by decide +kernel
theorem dX12_findReach_92 : decode cX12_findReach 92 = .ok (.iload_n 3, 1) := by decide +kernel
theorem dX12_findReach_93 : decode cX12_findReach 93 = .ok (.bipush 12, 2) := by decide +kernel
theorem dX12_findReach_95 : decode cX12_findReach 95 = .ok (.if_icmp .ge 67, 3) := by decide +kernel
theorem dX12_findReach_98 : decode cX12_findReach 98 = .ok (.aload_n 0, 1) := by decide +kernel
theorem dX12_findReach_99 : decode cX12_findReach 99 = .ok (.getfield 34, 3) := by decide +kernel
theorem dX12_findReach_102 : decode cX12_findReach 102 = .ok (.bipush 12, 2) := by decide +kernel
theorem dX12_findReach_104 : decode cX12_findReach 104 = .ok (.iload_n 2, 1) := by decide +kernel
theorem dX12_findReach_105 : decode cX12_findReach 105 = .ok (.imul, 1) := by decide +kernel
theorem dX12_findReach_106 : decode cX12_findReach 106 = .ok (.iload_n 3, 1) := by decide +kernel
theorem dX12_findReach_107 : decode cX12_findReach 107 = .ok (.iadd, 1) := by decide +kernel
theorem dX12_findReach_108 : decode cX12_findReach 108 = .ok (.aload_n 0, 1) := by decide +kernel
theorem dX12_findReach_109 : decode cX12_findReach 109 = .ok (.getfield 34, 3) := by decide +kernel
theorem dX12_findReach_112 : decode cX12_findReach 112 = .ok (.bipush 12, 2) := by decide +kernel
theorem dX12_findReach_114 : decode cX12_findReach 114 = .ok (.iload_n 2, 1) := by decide +kernel
theorem dX12_findReach_115 : decode cX12_findReach 115 = .ok (.imul, 1) := by decide +kernel
theorem dX12_findReach_116 : decode cX12_findReach 116 = .ok (.iload_n 3, 1) := by decide +kernel
theorem dX12_findReach_117 : decode cX12_findReach 117 = .ok (.iadd, 1) := by decide +kernel
theorem dX12_findReach_118 : decode cX12_findReach 118 = .ok (.baload, 1) := by decide +kernel
theorem dX12_findReach_119 : decode cX12_findReach 119 = .ok (.ifCond .ne 31, 3) := by decide +kernel
theorem dX12_findReach_122 : decode cX12_findReach 122 = .ok (.aload_n 0, 1) := by decide +kernel
theorem dX12_findReach_123 : decode cX12_findReach 123 = .ok (.getfield 34, 3) := by decide +kernel
theorem dX12_findReach_126 : decode cX12_findReach 126 = .ok (.bipush 12, 2) := by decide +kernel
theorem dX12_findReach_128 : decode cX12_findReach 128 = .ok (.iload_n 2, 1) := by decide +kernel
theorem dX12_findReach_129 : decode cX12_findReach 129 = .ok (.imul, 1) := by decide +kernel
theorem dX12_findReach_130 : decode cX12_findReach 130 = .ok (.iload_n 1, 1) := by decide +kernel
theorem dX12_findReach_131 : decode cX12_findReach 131 = .ok (.iadd, 1) := by decide +kernel
theorem dX12_findReach_132 : decode cX12_findReach 132 = .ok (.baload, 1) := by decide +kernel
theorem dX12_findReach_133 : decode cX12_findReach 133 = .ok (.ifCond .eq 21, 3) := by decide +kernel
theorem dX12_findReach_136 : decode cX12_findReach 136 = .ok (.aload_n 0, 1) := by decide +kernel
theorem dX12_findReach_137 : decode cX12_findReach 137 = .ok (.getfield 34, 3) := by decide +kernel
theorem dX12_findReach_140 : decode cX12_findReach 140 = .ok (.bipush 12, 2) := by decide +kernel
theorem dX12_findReach_142 : decode cX12_findReach 142 = .ok (.iload_n 1, 1) := by decide +kernel
theorem dX12_findReach_143 : decode cX12_findReach 143 = .ok (.imul, 1) := by decide +kernel
theorem dX12_findReach_144 : decode cX12_findReach 144 = .ok (.iload_n 3, 1) := by decide +kernel
theorem dX12_findReach_145 : decode cX12_findReach 145 = .ok (.iadd, 1) := by decide +kernel
theorem dX12_findReach_146 : decode cX12_findReach 146 = .ok (.baload, 1) := by decide +kernel
theorem dX12_findReach_147 : decode cX12_findReach 147 = .ok (.ifCond .eq 7, 3) := by decide +kernel
theorem dX12_findReach_150 : decode cX12_findReach 150 = .ok (.iconst 1, 1) := by decide +kernel
theorem dX12_findReach_151 : decode cX12_findReach 151 = .ok (.goto 4, 3) := by decide +kernel
theorem dX12_findReach_154 : decode cX12_findReach 154 = .ok (.iconst 0, 1) := by decide +kernel
theorem dX12_findReach_155 : decode cX12_findReach 155 = .ok (.bastore, 1) := by decide +kernel
theorem dX12_findReach_156 : decode cX12_findReach 156 = .ok (.iinc 3 1, 3) := by decide +kernel
theorem dX12_findReach_159 : decode cX12_findReach 159 = .ok (.goto (-67), 3) := by decide +kernel
theorem dX12_findReach_162 : decode cX12_findReach 162 = .ok (.iinc 2 1, 3) := by decide +kernel
theorem dX12_findReach_165 : decode cX12_findReach 165 = .ok (.goto (-81), 3) := by decide +kernel
theorem dX12_findReach_168 : decode cX12_findReach 168 = .ok (.iinc 1 1, 3) := by decide +kernel
theorem dX12_findReach_171 : decode cX12_findReach 171 = .ok (.goto (-95), 3) := by decide +kernel
theorem dX12_findReach_174 : decode cX12_findReach 174 = .ok (.return_, 1) := by decide +kernel
theorem dX12_isOne_0 : decode cX12_isOne 0 = .ok (.aload_n 0, 1) := by decide +kernel
theorem dX12_isOne_1 : decode cX12_isOne 1 = .ok (.getfield 34, 3) := by decide +kernel
theorem dX12_isOne_4 : decode cX12_isOne 4 = .ok (.bipush 12, 2) := by decide +kernel
theorem dX12_isOne_6 : decode cX12_isOne 6 = .ok (.iload_n 1, 1) := by decide +kernel
theorem dX12_isOne_7 : decode cX12_isOne 7 = .ok (.imul, 1) := by decide +kernel
theorem dX12_isOne_8 : decode cX12_isOne 8 = .ok (.iload_n 2, 1) := by decide +kernel
theorem dX12_isOne_9 : decode cX12_isOne 9 = .ok (.iadd, 1) := by decide +kernel
theorem dX12_isOne_10 : decode cX12_isOne 10 = .ok (.baload, 1) := by decide +kernel
theorem dX12_isOne_11 : decode cX12_isOne 11 = .ok (.ifCond .eq 21, 3) := by decide +kernel
theorem dX12_isOne_14 : decode cX12_isOne 14 = .ok (.aload_n 0, 1) := by decide +kernel
theorem dX12_isOne_15 : decode cX12_isOne 15 = .ok (.getfield 34, 3) := by decide +kernel
theorem dX12_isOne_18 : decode cX12_isOne 18 = .ok (.bipush 12, 2) := by decide +kernel
theorem dX12_isOne_20 : decode cX12_isOne 20 = .ok (.iload_n 2, 1) := by decide +kernel
theorem dX12_isOne_21 : decode cX12_isOne 21 = .ok (.imul, 1) := by decide +kernel
theorem dX12_isOne_22 : decode cX12_isOne 22 = .ok (.iload_n 1, 1) := by decide +kernel
theorem dX12_isOne_23 : decode cX12_isOne 23 = .ok (.iadd, 1) := by decide +kernel
theorem dX12_isOne_24 : decode cX12_isOne 24 = .ok (.baload, 1) := by decide +kernel
theorem dX12_isOne_25 : decode cX12_isOne 25 = .ok (.ifCond .eq 7, 3) := by decide +kernel
theorem dX12_isOne_28 : decode cX12_isOne 28 = .ok (.iconst 1, 1) := by decide +kernel
theorem dX12_isOne_29 : decode cX12_isOne 29 = .ok (.goto 4, 3) := by decide +kernel
theorem dX12_isOne_32 : decode cX12_isOne 32 = .ok (.iconst 0, 1) := by decide +kernel
theorem dX12_isOne_33 : decode cX12_isOne 33 = .ok (.ireturn, 1) := by decide +kernel
set_option maxRecDepth 20000 in
set_option maxRecDepth 100000 in
theorem ggX12_isNext_X12_counts : GoodIn wsX12_isNext wsX12_counts := goodIn_r _ [7, 8, 9, 10, 11, 6, 12, 13, 14, 15, 16, 17, 18, 19, 20, 21, 22, 23, 28, 29, 30, 31, 32, 33, 34, 35, 36, 37, 38, 39, 40, 41, 42, 43, 44, 45] rfl (by decide +kernel)
set_option maxRecDepth 20000 in
theorem gX12_isNext_X12_counts : GoodIn wsX12_isNext (wsV RX12 109 RX12 yX12_counts wsX12_counts) := goodIn_app (goodIn_of _ (by decide +kernel)) ggX12_isNext_X12_counts
set_option maxRecDepth 20000 in
set_option maxRecDepth 100000 in
theorem ggX12_isNext_X12_hens : GoodIn wsX12_isNext wsX12_hens := goodIn_r _ [16, 8, 28, 29, 30, 31, 32, 33, 34, 35, 36, 37, 38, 39, 40, 41, 42, 43, 44, 45] rfl (by decide +kernel)
set_option maxRecDepth 20000 in
theorem gX12_isNext_X12_hens : GoodIn wsX12_isNext (wsV RX12 53 RX12 yX12_hens wsX12_hens) := goodIn_app (goodIn_of _ (by decide +kernel)) ggX12_isNext_X12_hens
set_option maxRecDepth 20000 in
set_option maxRecDepth 100000 in
theorem ggX12_isNext_X12_isOne : GoodIn wsX12_isNext wsX12_isOne := goodIn_r _ [27, 2, 28, 29, 30, 31, 32, 33, 34, 35, 36, 37, 38, 39, 40, 41, 42, 43, 44, 45] rfl (by decide +kernel)
set_option maxRecDepth 20000 in
theorem gX12_isNext_X12_isOne : GoodIn wsX12_isNext (wsV RX12 197 RX12 yX12_isOne wsX12_isOne) := goodIn_app (goodIn_of _ (by decide +kernel)) ggX12_isNext_X12_isOne
theorem dX12_isNext_0 : decode cX12_isNext 0 = .ok (.aload_n 0, 1) := by decide +kernel
theorem dX12_isNext_1 : decode cX12_isNext 1 = .ok (.iload_n 1, 1) := by decide +kernel
theorem dX12_isNext_2 : decode cX12_isNext 2 = .ok (.invokevirtual 109, 3) := by decide +kernel
theorem dX12_isNext_5 : decode cX12_isNext 5 = .ok (.ifCond .eq 12, 3) := by decide +kernel
theorem dX12_isNext_8 : decode cX12_isNext 8 = .ok (.aload_n 0, 1) := by decide +kernel
theorem dX12_isNext_9 : decode cX12_isNext 9 = .ok (.getfield 37, 3) := by decide +kernel
theorem dX12_isNext_12 : decode cX12_isNext 12 = .ok (.iload_n 1, 1) := by decide +kernel
theorem dX12_isNext_13 : decode cX12_isNext 13 = .ok (.iaload, 1) := by decide +kernel
theorem dX12_isNext_14 : decode cX12_isNext 14 = .ok (.ifCond .lt 5, 3) := by decide +kernel
theorem dX12_isNext_17 : decode cX12_isNext 17 = .ok (.iconst 0, 1) := by decide +kernel
theorem dX12_isNext_18 : decode cX12_isNext 18 = .ok (.ireturn, 1) := by decide +kernel
theorem dX12_isNext_19 : decode cX12_isNext 19 = .ok (.iconst 1, 1) := by decide +kernel
theorem dX12_isNext_20 : decode cX12_isNext 20 = .ok (.istore_n 2, 1) := by decide +kernel
theorem dX12_isNext_21 : decode cX12_isNext 21 = .ok (.iconst 0, 1) := by decide +kernel
theorem dX12_isNext_22 : decode cX12_isNext 22 = .ok (.istore_n 3, 1) := by decide +kernel
theorem dX12_isNext_23 : decode cX12_isNext 23 = .ok (.iload_n 3, 1) := by decide +kernel
theorem dX12_isNext_24 : decode cX12_isNext 24 = .ok (.aload_n 0, 1) := by decide +kernel
theorem dX12_isNext_25 : decode cX12_isNext 25 = .ok (.invokevirtual 53, 3) := by decide +kernel
theorem dX12_isNext_28 : decode cX12_isNext 28 = .ok (.if_icmp .ge 59, 3) := by decide +kernel
theorem dX12_isNext_31 : decode cX12_isNext 31 = .ok (.iload_n 2, 1) := by decide +kernel
theorem dX12_isNext_32 : decode cX12_isNext 32 = .ok (.ifCond .eq 47, 3) := by decide +kernel
theorem dX12_isNext_35 : decode cX12_isNext 35 = .ok (.aload_n 0, 1) := by decide +kernel
theorem dX12_isNext_36 : decode cX12_isNext 36 = .ok (.iload_n 3, 1) := by decide +kernel
theorem dX12_isNext_37 : decode cX12_isNext 37 = .ok (.invokevirtual 109, 3) := by decide +kernel
theorem dX12_isNext_40 : decode cX12_isNext 40 = .ok (.ifCond .eq 35, 3) := by decide +kernel
theorem dX12_isNext_43 : decode cX12_isNext 43 = .ok (.aload_n 0, 1) := by decide +kernel
theorem dX12_isNext_44 : decode cX12_isNext 44 = .ok (.getfield 37, 3) := by decide +kernel
theorem dX12_isNext_47 : decode cX12_isNext 47 = .ok (.iload_n 3, 1) := by decide +kernel
theorem dX12_isNext_48 : decode cX12_isNext 48 = .ok (.iaload, 1) := by decide +kernel
theorem dX12_isNext_49 : decode cX12_isNext 49 = .ok (.ifCond .ge 26, 3) := by decide +kernel
theorem dX12_isNext_52 : decode cX12_isNext 52 = .ok (.aload_n 0, 1) := by decide +kernel
theorem dX12_isNext_53 : decode cX12_isNext 53 = .ok (.iload_n 3, 1) := by decide +kernel
theorem dX12_isNext_54 : decode cX12_isNext 54 = .ok (.iload_n 1, 1) := by decide +kernel
theorem dX12_isNext_55 : decode cX12_isNext 55 = .ok (.invokevirtual 197, 3) := by decide +kernel
theorem dX12_isNext_58 : decode cX12_isNext 58 = .ok (.ifCond .ne 17, 3) := by decide +kernel
theorem dX12_isNext_61 : decode cX12_isNext 61 = .ok (.aload_n 0, 1) := by decide +kernel
theorem dX12_isNext_62 : decode cX12_isNext 62 = .ok (.getfield 34, 3) := by decide +kernel
theorem dX12_isNext_65 : decode cX12_isNext 65 = .ok (.bipush 12, 2) := by decide +kernel
theorem dX12_isNext_67 : decode cX12_isNext 67 = .ok (.iload_n 3, 1) := by decide +kernel
theorem dX12_isNext_68 : decode cX12_isNext 68 = .ok (.imul, 1) := by decide +kernel
theorem dX12_isNext_69 : decode cX12_isNext 69 = .ok (.iload_n 1, 1) := by decide +kernel
theorem dX12_isNext_70 : decode cX12_isNext 70 = .ok (.iadd, 1) := by decide +kernel
theorem dX12_isNext_71 : decode cX12_isNext 71 = .ok (.baload, 1) := by decide +kernel
theorem dX12_isNext_72 : decode cX12_isNext 72 = .ok (.ifCond .ne 7, 3) := by decide +kernel
theorem dX12_isNext_75 : decode cX12_isNext 75 = .ok (.iconst 1, 1) := by decide +kernel
theorem dX12_isNext_76 : decode cX12_isNext 76 = .ok (.goto 4, 3) := by decide +kernel
theorem dX12_isNext_79 : decode cX12_isNext 79 = .ok (.iconst 0, 1) := by decide +kernel
theorem dX12_isNext_80 : decode cX12_isNext 80 = .ok (.istore_n 2, 1) := by decide +kernel
theorem dX12_isNext_81 : decode cX12_isNext 81 = .ok (.iinc 3 1, 3) := by decide +kernel
theorem dX12_isNext_84 : decode cX12_isNext 84 = .ok (.goto (-61), 3) := by decide +kernel
theorem dX12_isNext_87 : decode cX12_isNext 87 = .ok (.iload_n 2, 1) := by decide +kernel
theorem dX12_isNext_88 : decode cX12_isNext 88 = .ok (.ireturn, 1) := by decide +kernel
set_option maxRecDepth 20000 in
set_option maxRecDepth 100000 in
theorem ggX12_findGroups_X12_findReach : GoodIn wsX12_findGroups wsX12_findReach := goodIn_r _ [6, 7, 8, 9, 10, 5, 11, 12, 13, 14, 15, 16, 17, 18, 19, 20, 21, 22, 23, 24, 25, 26, 27, 28, 29, 30, 31, 40, 41, 42, 43, 44, 45, 46, 47, 48, 49, 50, 51, 52, 53, 54, 55, 56, 57] rfl (by decide +kernel)
set_option maxRecDepth 20000 in
theorem gX12_findGroups_X12_findReach : GoodIn wsX12_findGroups (wsV RX12 200 RX12 yX12_findReach wsX12_findReach) := goodIn_app (goodIn_of _ (by decide +kernel)) ggX12_findGroups_X12_findReach
set_option maxRecDepth 20000 in
set_option maxRecDepth 100000 in
theorem ggX12_findGroups_X12_hens : GoodIn wsX12_findGroups wsX12_hens := goodIn_r _ [20, 12, 40, 41, 42, 43, 44, 45, 46, 47, 48, 49, 50, 51, 52, 53, 54, 55, 56, 57] rfl (by decide +kernel)
set_option maxRecDepth 20000 in
theorem gX12_findGroups_X12_hens : GoodIn wsX12_findGroups (wsV RX12 53 RX12 yX12_hens wsX12_hens) := goodIn_app (goodIn_of _ (by decide +kernel)) ggX12_findGroups_X12_hens
set_option maxRecDepth 20000 in
set_option maxRecDepth 100000 in
theorem ggX12_findGroups_X12_isNext : GoodIn wsX12_findGroups wsX12_isNext := goodIn_r _ [35, 1, 7, 8, 9, 10, 5, 11, 12, 13, 14, 15, 16, 17, 18, 19, 20, 21, 22, 23, 24, 25, 26, 27, 36, 37, 38, 39, 40, 41, 42, 43, 44, 45, 46, 47, 48, 49, 50, 51, 52, 53, 54, 55, 56, 57] rfl (by decide +kernel)
set_option maxRecDepth 20000 in
theorem gX12_findGroups_X12_isNext : GoodIn wsX12_findGroups (wsV RX12 203 RX12 yX12_isNext wsX12_isNext) := goodIn_app (goodIn_of _ (by decide +kernel)) ggX12_findGroups_X12_isNext
set_option maxRecDepth 20000 in
set_option maxRecDepth 100000 in
theorem ggX12_findGroups_X12_counts : GoodIn wsX12_findGroups wsX12_counts := goodIn_r _ [11, 12, 13, 14, 15, 5, 16, 17, 18, 19, 20, 21, 22, 23, 24, 25, 26, 27, 40, 41, 42, 43, 44, 45, 46, 47, 48, 49, 50, 51, 52, 53, 54, 55, 56, 57] rfl (by decide +kernel)
set_option maxRecDepth 20000 in
theorem gX12_findGroups_X12_counts : GoodIn wsX12_findGroups (wsV RX12 109 RX12 yX12_counts wsX12_counts) := goodIn_app (goodIn_of _ (by decide +kernel)) ggX12_findGroups_X12_counts
set_option maxRecDepth 20000 in
set_option maxRecDepth 100000 in
theorem ggX12_findGroups_X12_isOne : GoodIn wsX12_findGroups wsX12_isOne := goodIn_r _ [39, 7, 40, 41, 42, 43, 44, 45, 46, 47, 48, 49, 50, 51, 52, 53, 54, 55, 56, 57] rfl (by decide +kernel)
set_option maxRecDepth 20000 in
theorem gX12_findGroups_X12_isOne : GoodIn wsX12_findGroups (wsV RX12 197 RX12 yX12_isOne wsX12_isOne) := goodIn_app (goodIn_of _ (by decide +kernel)) ggX12_findGroups_X12_isOne
theorem dX12_findGroups_0 : decode cX12_findGroups 0 = .ok (.aload_n 0, 1) := by decide +kernel
theorem dX12_findGroups_1 : decode cX12_findGroups 1 = .ok (.invokevirtual 200, 3) := by decide +kernel
theorem dX12_findGroups_4 : decode cX12_findGroups 4 = .ok (.iconst 0, 1) := by decide +kernel
theorem dX12_findGroups_5 : decode cX12_findGroups 5 = .ok (.istore_n 1, 1) := by decide +kernel
theorem dX12_findGroups_6 : decode cX12_findGroups 6 = .ok (.iload_n 1, 1) := by decide +kernel
theorem dX12_findGroups_7 : decode cX12_findGroups 7 = .ok (.bipush 12, 2) := by decide +kernel
theorem dX12_findGroups_9 : decode cX12_findGroups 9 = .ok (.if_icmp .ge 16, 3) := by decide +kernel
theorem dX12_findGroups_12 : decode cX12_findGroups 12 = .ok (.aload_n 0, 1) := by decide +kernel
theorem dX12_findGroups_13 : decode cX12_findGroups 13 = .ok (.getfield 37, 3) := by decide +kernel
theorem dX12_findGroups_16 : decode cX12_findGroups 16 = .ok (.iload_n 1, 1) := by decide +kernel
theorem dX12_findGroups_17 : decode cX12_findGroups 17 = .ok (.iconst (-1), 1) := by decide +kernel
theorem dX12_findGroups_18 : decode cX12_findGroups 18 = .ok (.iastore, 1) := by decide +kernel
theorem dX12_findGroups_19 : decode cX12_findGroups 19 = .ok (.iinc 1 1, 3) := by decide +kernel
theorem dX12_findGroups_22 : decode cX12_findGroups 22 = .ok (.goto (-16), 3) := by decide +kernel
theorem dX12_findGroups_25 : decode cX12_findGroups 25 = .ok (.iconst 0, 1) := by decide +kernel
theorem dX12_findGroups_26 : decode cX12_findGroups 26 = .ok (.istore_n 1, 1) := by decide +kernel
theorem dX12_findGroups_27 : decode cX12_findGroups 27 = .ok (.iconst 0, 1) := by decide +kernel
theorem dX12_findGroups_28 : decode cX12_findGroups 28 = .ok (.istore_n 2, 1) := by decide +kernel
theorem dX12_findGroups_29 : decode cX12_findGroups 29 = .ok (.iload_n 2, 1) := by decide +kernel
theorem dX12_findGroups_30 : decode cX12_findGroups 30 = .ok (.aload_n 0, 1) := by decide +kernel
theorem dX12_findGroups_31 : decode cX12_findGroups 31 = .ok (.invokevirtual 53, 3) := by decide +kernel
theorem dX12_findGroups_34 : decode cX12_findGroups 34 = .ok (.if_icmp .ge 71, 3) := by decide +kernel
theorem dX12_findGroups_37 : decode cX12_findGroups 37 = .ok (.aload_n 0, 1) := by decide +kernel
theorem dX12_findGroups_38 : decode cX12_findGroups 38 = .ok (.iload_n 2, 1) := by decide +kernel
theorem dX12_findGroups_39 : decode cX12_findGroups 39 = .ok (.invokevirtual 203, 3) := by decide +kernel
theorem dX12_findGroups_42 : decode cX12_findGroups 42 = .ok (.ifCond .eq 57, 3) := by decide +kernel
theorem dX12_findGroups_45 : decode cX12_findGroups 45 = .ok (.iconst 0, 1) := by decide +kernel
theorem dX12_findGroups_46 : decode cX12_findGroups 46 = .ok (.istore_n 3, 1) := by decide +kernel
theorem dX12_findGroups_47 : decode cX12_findGroups 47 = .ok (.iload_n 3, 1) := by decide +kernel
theorem dX12_findGroups_48 : decode cX12_findGroups 48 = .ok (.aload_n 0, 1) := by decide +kernel
theorem dX12_findGroups_49 : decode cX12_findGroups 49 = .ok (.invokevirtual 53, 3) := by decide +kernel
theorem dX12_findGroups_52 : decode cX12_findGroups 52 = .ok (.if_icmp .ge 42, 3) := by decide +kernel
theorem dX12_findGroups_55 : decode cX12_findGroups 55 = .ok (.aload_n 0, 1) := by decide +kernel
theorem dX12_findGroups_56 : decode cX12_findGroups 56 = .ok (.getfield 37, 3) := by decide +kernel
theorem dX12_findGroups_59 : decode cX12_findGroups 59 = .ok (.iload_n 3, 1) := by decide +kernel
theorem dX12_findGroups_60 : decode cX12_findGroups 60 = .ok (.aload_n 0, 1) := by decide +kernel
theorem dX12_findGroups_61 : decode cX12_findGroups 61 = .ok (.iload_n 3, 1) := by decide +kernel
theorem dX12_findGroups_62 : decode cX12_findGroups 62 = .ok (.invokevirtual 109, 3) := by decide +kernel
theorem dX12_findGroups_65 : decode cX12_findGroups 65 = .ok (.ifCond .eq 16, 3) := by decide +kernel
theorem dX12_findGroups_68 : decode cX12_findGroups 68 = .ok (.aload_n 0, 1) := by decide +kernel
theorem dX12_findGroups_69 : decode cX12_findGroups 69 = .ok (.iload_n 3, 1) := by decide +kernel
theorem dX12_findGroups_70 : decode cX12_findGroups 70 = .ok (.iload_n 2, 1) := by decide +kernel
theorem dX12_findGroups_71 : decode cX12_findGroups 71 = .ok (.invokevirtual 197, 3) := by decide +kernel
theorem dX12_findGroups_74 : decode cX12_findGroups 74 = .ok (.ifCond .eq 7, 3) := by decide +kernel
theorem dX12_findGroups_77 : decode cX12_findGroups 77 = .ok (.iload_n 1, 1) := by decide +kernel
theorem dX12_findGroups_78 : decode cX12_findGroups 78 = .ok (.goto 9, 3) := by decide +kernel
theorem dX12_findGroups_81 : decode cX12_findGroups 81 = .ok (.aload_n 0, 1) := by decide +kernel
theorem dX12_findGroups_82 : decode cX12_findGroups 82 = .ok (.getfield 37, 3) := by decide +kernel
theorem dX12_findGroups_85 : decode cX12_findGroups 85 = .ok (.iload_n 3, 1) := by decide +kernel
theorem dX12_findGroups_86 : decode cX12_findGroups 86 = .ok (.iaload, 1) := by decide +kernel
theorem dX12_findGroups_87 : decode cX12_findGroups 87 = .ok (.iastore, 1) := by decide +kernel
theorem dX12_findGroups_88 : decode cX12_findGroups 88 = .ok (.iinc 3 1, 3) := by decide +kernel
theorem dX12_findGroups_91 : decode cX12_findGroups 91 = .ok (.goto (-44), 3) := by decide +kernel
theorem dX12_findGroups_94 : decode cX12_findGroups 94 = .ok (.iinc 1 1, 3) := by decide +kernel
theorem dX12_findGroups_97 : decode cX12_findGroups 97 = .ok (.iconst (-1), 1) := by decide +kernel
theorem dX12_findGroups_98 : decode cX12_findGroups 98 = .ok (.istore_n 2, 1) := by decide +kernel
theorem dX12_findGroups_99 : decode cX12_findGroups 99 = .ok (.iinc 2 1, 3) := by decide +kernel
theorem dX12_findGroups_102 : decode cX12_findGroups 102 = .ok (.goto (-73), 3) := by decide +kernel
theorem dX12_findGroups_105 : decode cX12_findGroups 105 = .ok (.iload_n 1, 1) := by decide +kernel
theorem dX12_findGroups_106 : decode cX12_findGroups 106 = .ok (.ireturn, 1) := by decide +kernel
set_option maxRecDepth 20000 in
set_option maxRecDepth 100000 in
theorem ggX12_groups_X12_findGroups : GoodIn wsX12_groups wsX12_findGroups := goodIn_r _ [5, 6, 7, 8, 9, 4, 10, 11, 12, 13, 14, 15, 16, 17, 18, 19, 20, 21, 22, 23, 24, 25, 26, 27, 28, 29, 30, 31, 32, 33, 34, 35, 36, 37, 38, 39, 40, 41, 42, 43, 44, 45, 46, 47, 48, 49, 50, 51, 52, 53, 54, 55, 56, 57, 58, 59, 60, 61] rfl (by decide +kernel)
set_option maxRecDepth 20000 in
theorem gX12_groups_X12_findGroups : GoodIn wsX12_groups (wsV RX12 206 RX12 yX12_findGroups wsX12_findGroups) := goodIn_app (goodIn_of _ (by decide +kernel)) ggX12_groups_X12_findGroups
theorem dX12_groups_0 : decode cX12_groups 0 = .ok (.aload_n 0, 1) := by decide +kernel
theorem dX12_groups_1 : decode cX12_groups 1 = .ok (.invokevirtual 206, 3) := by decide +kernel
theorem dX12_groups_4 : decode cX12_groups 4 = .ok (.i2l, 1) := by decide +kernel
theorem dX12_groups_5 : decode cX12_groups 5 = .ok (.lreturn, 1) := by decide +kernel
set_option maxRecDepth 20000 in
set_option maxRecDepth 100000 in
theorem ggX12_groupOf_X12_isHen : GoodIn wsX12_groupOf wsX12_isHen := goodIn_r _ [8, 9, 10, 11, 7, 12, 13, 14, 15, 16, 46, 47, 48, 49, 50, 51, 52, 53, 54, 55, 56, 57, 58, 59, 60, 61, 62, 63] rfl (by decide +kernel)
set_option maxRecDepth 20000 in
theorem gX12_groupOf_X12_isHen : GoodIn wsX12_groupOf (wsV RX12 83 RX12 yX12_isHen wsX12_isHen) := goodIn_app (goodIn_of _ (by decide +kernel)) ggX12_groupOf_X12_isHen
set_option maxRecDepth 20000 in
set_option maxRecDepth 100000 in
theorem ggX12_groupOf_X12_counts : GoodIn wsX12_groupOf wsX12_counts := goodIn_r _ [20, 13, 4, 5, 6, 7, 8, 9, 10, 11, 12, 14, 15, 16, 21, 22, 23, 24, 46, 47, 48, 49, 50, 51, 52, 53, 54, 55, 56, 57, 58, 59, 60, 61, 62, 63] rfl (by decide +kernel)
set_option maxRecDepth 20000 in
theorem gX12_groupOf_X12_counts : GoodIn wsX12_groupOf (wsV RX12 109 RX12 yX12_counts wsX12_counts) := goodIn_app (goodIn_of _ (by decide +kernel)) ggX12_groupOf_X12_counts
set_option maxRecDepth 20000 in
set_option maxRecDepth 100000 in
theorem ggX12_groupOf_X12_findGroups : GoodIn wsX12_groupOf wsX12_findGroups := goodIn_r _ [28, 3, 29, 30, 31, 7, 32, 33, 17, 18, 19, 20, 13, 4, 5, 6, 8, 9, 10, 11, 12, 14, 15, 16, 21, 22, 23, 24, 34, 35, 36, 37, 38, 39, 40, 41, 42, 43, 44, 45, 46, 47, 48, 49, 50, 51, 52, 53, 54, 55, 56, 57, 58, 59, 60, 61, 62, 63] rfl (by decide +kernel)
set_option maxRecDepth 20000 in
theorem gX12_groupOf_X12_findGroups : GoodIn wsX12_groupOf (wsV RX12 206 RX12 yX12_findGroups wsX12_findGroups) := goodIn_app (goodIn_of _ (by decide +kernel)) ggX12_groupOf_X12_findGroups
theorem dX12_groupOf_0 : decode cX12_groupOf 0 = .ok (.aload_n 0, 1) := by decide +kernel
theorem dX12_groupOf_1 : decode cX12_groupOf 1 = .ok (.iload_n 1, 1) := by decide +kernel
theorem dX12_groupOf_2 : decode cX12_groupOf 2 = .ok (.invokevirtual 83, 3) := by decide +kernel
theorem dX12_groupOf_5 : decode cX12_groupOf 5 = .ok (.ifCond .ne 7, 3) := by decide +kernel
theorem dX12_groupOf_8 : decode cX12_groupOf 8 = .ok (.ldc2_w 72, 3) := by decide +kernel
theorem dX12_groupOf_11 : decode cX12_groupOf 11 = .ok (.lreturn, 1) := by decide +kernel
theorem dX12_groupOf_12 : decode cX12_groupOf 12 = .ok (.aload_n 0, 1) := by decide +kernel
theorem dX12_groupOf_13 : decode cX12_groupOf 13 = .ok (.iload_n 1, 1) := by decide +kernel
theorem dX12_groupOf_14 : decode cX12_groupOf 14 = .ok (.invokevirtual 109, 3) := by decide +kernel
theorem dX12_groupOf_17 : decode cX12_groupOf 17 = .ok (.ifCond .ne 7, 3) := by decide +kernel
theorem dX12_groupOf_20 : decode cX12_groupOf 20 = .ok (.ldc2_w 112, 3) := by decide +kernel
theorem dX12_groupOf_23 : decode cX12_groupOf 23 = .ok (.lreturn, 1) := by decide +kernel
theorem dX12_groupOf_24 : decode cX12_groupOf 24 = .ok (.aload_n 0, 1) := by decide +kernel
theorem dX12_groupOf_25 : decode cX12_groupOf 25 = .ok (.invokevirtual 206, 3) := by decide +kernel
theorem dX12_groupOf_28 : decode cX12_groupOf 28 = .ok (.pop, 1) := by decide +kernel
theorem dX12_groupOf_29 : decode cX12_groupOf 29 = .ok (.aload_n 0, 1) := by decide +kernel
theorem dX12_groupOf_30 : decode cX12_groupOf 30 = .ok (.getfield 37, 3) := by decide +kernel
theorem dX12_groupOf_33 : decode cX12_groupOf 33 = .ok (.iload_n 1, 1) := by decide +kernel
theorem dX12_groupOf_34 : decode cX12_groupOf 34 = .ok (.iaload, 1) := by decide +kernel
theorem dX12_groupOf_35 : decode cX12_groupOf 35 = .ok (.i2l, 1) := by decide +kernel
theorem dX12_groupOf_36 : decode cX12_groupOf 36 = .ok (.lreturn, 1) := by decide +kernel
set_option maxRecDepth 20000 in
set_option maxRecDepth 100000 in
theorem ggX12_closes_X12_hens : GoodIn wsX12_closes wsX12_hens := goodIn_r _ [7, 8, 12, 13, 14, 15, 16, 17, 18, 19, 20, 21, 22, 23, 24, 25, 26, 27, 28, 29] rfl (by decide +kernel)
set_option maxRecDepth 20000 in
theorem gX12_closes_X12_hens : GoodIn wsX12_closes (wsV RX12 53 RX12 yX12_hens wsX12_hens) := goodIn_app (goodIn_of _ (by decide +kernel)) ggX12_closes_X12_hens
set_option maxRecDepth 20000 in
set_option maxRecDepth 100000 in
theorem ggX12_closes_X12_closes : GoodIn wsX12_closes wsX12_closes := goodIn_r _ [0, 1, 2, 3, 4, 5, 6, 7, 8, 9, 10, 11, 12, 13, 14, 15, 16, 17, 18, 19, 20, 21, 22, 23, 24, 25, 26, 27, 28, 29] rfl (by decide +kernel)
set_option maxRecDepth 20000 in
theorem gX12_closes_X12_closes : GoodIn wsX12_closes (wsV RX12 209 RX12 yX12_closes wsX12_closes) := goodIn_app (goodIn_of _ (by decide +kernel)) ggX12_closes_X12_closes
theorem dX12_closes_0 : decode cX12_closes 0 = .ok (.aload_n 0, 1) := by decide +kernel
theorem dX12_closes_1 : decode cX12_closes 1 = .ok (.getfield 43, 3) := by decide +kernel
theorem dX12_closes_4 : decode cX12_closes 4 = .ok (.iload_n 1, 1) := by decide +kernel
theorem dX12_closes_5 : decode cX12_closes 5 = .ok (.iconst 1, 1) := by decide +kernel
theorem dX12_closes_6 : decode cX12_closes 6 = .ok (.isub, 1) := by decide +kernel
theorem dX12_closes_7 : decode cX12_closes 7 = .ok (.iaload, 1) := by decide +kernel
theorem dX12_closes_8 : decode cX12_closes 8 = .ok (.istore_n 3, 1) := by decide +kernel
theorem dX12_closes_9 : decode cX12_closes 9 = .ok (.iload_n 1, 1) := by decide +kernel
theorem dX12_closes_10 : decode cX12_closes 10 = .ok (.iload_n 2, 1) := by decide +kernel
theorem dX12_closes_11 : decode cX12_closes 11 = .ok (.if_icmp .ne 28, 3) := by decide +kernel
theorem dX12_closes_14 : decode cX12_closes 14 = .ok (.aload_n 0, 1) := by decide +kernel
theorem dX12_closes_15 : decode cX12_closes 15 = .ok (.getfield 40, 3) := by decide +kernel
theorem dX12_closes_18 : decode cX12_closes 18 = .ok (.bipush 12, 2) := by decide +kernel
theorem dX12_closes_20 : decode cX12_closes 20 = .ok (.iload_n 3, 1) := by decide +kernel
theorem dX12_closes_21 : decode cX12_closes 21 = .ok (.imul, 1) := by decide +kernel
theorem dX12_closes_22 : decode cX12_closes 22 = .ok (.aload_n 0, 1) := by decide +kernel
theorem dX12_closes_23 : decode cX12_closes 23 = .ok (.getfield 43, 3) := by decide +kernel
theorem dX12_closes_26 : decode cX12_closes 26 = .ok (.iconst 0, 1) := by decide +kernel
theorem dX12_closes_27 : decode cX12_closes 27 = .ok (.iaload, 1) := by decide +kernel
theorem dX12_closes_28 : decode cX12_closes 28 = .ok (.iadd, 1) := by decide +kernel
theorem dX12_closes_29 : decode cX12_closes 29 = .ok (.iaload, 1) := by decide +kernel
theorem dX12_closes_30 : decode cX12_closes 30 = .ok (.ifCond .le 7, 3) := by decide +kernel
theorem dX12_closes_33 : decode cX12_closes 33 = .ok (.iconst 1, 1) := by decide +kernel
theorem dX12_closes_34 : decode cX12_closes 34 = .ok (.goto 4, 3) := by decide +kernel
theorem dX12_closes_37 : decode cX12_closes 37 = .ok (.iconst 0, 1) := by decide +kernel
theorem dX12_closes_38 : decode cX12_closes 38 = .ok (.ireturn, 1) := by decide +kernel
theorem dX12_closes_39 : decode cX12_closes 39 = .ok (.aload_n 0, 1) := by decide +kernel
theorem dX12_closes_40 : decode cX12_closes 40 = .ok (.getfield 43, 3) := by decide +kernel
theorem dX12_closes_43 : decode cX12_closes 43 = .ok (.iconst 0, 1) := by decide +kernel
theorem dX12_closes_44 : decode cX12_closes 44 = .ok (.iaload, 1) := by decide +kernel
theorem dX12_closes_45 : decode cX12_closes 45 = .ok (.iconst 1, 1) := by decide +kernel
theorem dX12_closes_46 : decode cX12_closes 46 = .ok (.iadd, 1) := by decide +kernel
theorem dX12_closes_47 : decode cX12_closes 47 = .ok (.istore 4, 2) := by decide +kernel
theorem dX12_closes_49 : decode cX12_closes 49 = .ok (.iload 4, 2) := by decide +kernel
theorem dX12_closes_51 : decode cX12_closes 51 = .ok (.aload_n 0, 1) := by decide +kernel
theorem dX12_closes_52 : decode cX12_closes 52 = .ok (.invokevirtual 53, 3) := by decide +kernel
theorem dX12_closes_55 : decode cX12_closes 55 = .ok (.if_icmp .ge 92, 3) := by decide +kernel
theorem dX12_closes_58 : decode cX12_closes 58 = .ok (.iconst 0, 1) := by decide +kernel
theorem dX12_closes_59 : decode cX12_closes 59 = .ok (.istore 5, 2) := by decide +kernel
theorem dX12_closes_61 : decode cX12_closes 61 = .ok (.iconst 0, 1) := by decide +kernel
theorem dX12_closes_62 : decode cX12_closes 62 = .ok (.istore 6, 2) := by decide +kernel
theorem dX12_closes_64 : decode cX12_closes 64 = .ok (.iload 6, 2) := by decide +kernel
theorem dX12_closes_66 : decode cX12_closes 66 = .ok (.iload_n 1, 1) := by decide +kernel
theorem dX12_closes_67 : decode cX12_closes 67 = .ok (.if_icmp .ge 33, 3) := by decide +kernel
theorem dX12_closes_70 : decode cX12_closes 70 = .ok (.iload 5, 2) := by decide +kernel
theorem dX12_closes_72 : decode cX12_closes 72 = .ok (.ifCond .ne 15, 3) := by decide +kernel
theorem dX12_closes_75 : decode cX12_closes 75 = .ok (.aload_n 0, 1) := by decide +kernel
theorem dX12_closes_76 : decode cX12_closes 76 = .ok (.getfield 43, 3) := by decide +kernel
theorem dX12_closes_79 : decode cX12_closes 79 = .ok (.iload 6, 2) := by decide +kernel
theorem dX12_closes_81 : decode cX12_closes 81 = .ok (.iaload, 1) := by decide +kernel
theorem dX12_closes_82 : decode cX12_closes 82 = .ok (.iload 4, 2) := by decide +kernel
theorem dX12_closes_84 : decode cX12_closes 84 = .ok (.if_icmp .ne 7, 3) := by decide +kernel
theorem dX12_closes_87 : decode cX12_closes 87 = .ok (.iconst 1, 1) := by decide +kernel
theorem dX12_closes_88 : decode cX12_closes 88 = .ok (.goto 4, 3) := by decide +kernel
theorem dX12_closes_91 : decode cX12_closes 91 = .ok (.iconst 0, 1) := by decide +kernel
theorem dX12_closes_92 : decode cX12_closes 92 = .ok (.istore 5, 2) := by decide +kernel
theorem dX12_closes_94 : decode cX12_closes 94 = .ok (.iinc 6 1, 3) := by decide +kernel
theorem dX12_closes_97 : decode cX12_closes 97 = .ok (.goto (-33), 3) := by decide +kernel
theorem dX12_closes_100 : decode cX12_closes 100 = .ok (.iload 5, 2) := by decide +kernel
theorem dX12_closes_102 : decode cX12_closes 102 = .ok (.ifCond .ne 39, 3) := by decide +kernel
theorem dX12_closes_105 : decode cX12_closes 105 = .ok (.aload_n 0, 1) := by decide +kernel
theorem dX12_closes_106 : decode cX12_closes 106 = .ok (.getfield 40, 3) := by decide +kernel
theorem dX12_closes_109 : decode cX12_closes 109 = .ok (.bipush 12, 2) := by decide +kernel
theorem dX12_closes_111 : decode cX12_closes 111 = .ok (.iload_n 3, 1) := by decide +kernel
theorem dX12_closes_112 : decode cX12_closes 112 = .ok (.imul, 1) := by decide +kernel
theorem dX12_closes_113 : decode cX12_closes 113 = .ok (.iload 4, 2) := by decide +kernel
theorem dX12_closes_115 : decode cX12_closes 115 = .ok (.iadd, 1) := by decide +kernel
theorem dX12_closes_116 : decode cX12_closes 116 = .ok (.iaload, 1) := by decide +kernel
theorem dX12_closes_117 : decode cX12_closes 117 = .ok (.ifCond .le 24, 3) := by decide +kernel
theorem dX12_closes_120 : decode cX12_closes 120 = .ok (.aload_n 0, 1) := by decide +kernel
theorem dX12_closes_121 : decode cX12_closes 121 = .ok (.getfield 43, 3) := by decide +kernel
theorem dX12_closes_124 : decode cX12_closes 124 = .ok (.iload_n 1, 1) := by decide +kernel
theorem dX12_closes_125 : decode cX12_closes 125 = .ok (.iload 4, 2) := by decide +kernel
theorem dX12_closes_127 : decode cX12_closes 127 = .ok (.iastore, 1) := by decide +kernel
theorem dX12_closes_128 : decode cX12_closes 128 = .ok (.aload_n 0, 1) := by decide +kernel
theorem dX12_closes_129 : decode cX12_closes 129 = .ok (.iload_n 1, 1) := by decide +kernel
theorem dX12_closes_130 : decode cX12_closes 130 = .ok (.iconst 1, 1) := by decide +kernel
theorem dX12_closes_131 : decode cX12_closes 131 = .ok (.iadd, 1) := by decide +kernel
theorem dX12_closes_132 : decode cX12_closes 132 = .ok (.iload_n 2, 1) := by decide +kernel
theorem dX12_closes_133 : decode cX12_closes 133 = .ok (.invokevirtual 209, 3) := by decide +kernel
theorem dX12_closes_136 : decode cX12_closes 136 = .ok (.ifCond .eq 5, 3) := by decide +kernel
theorem dX12_closes_139 : decode cX12_closes 139 = .ok (.iconst 1, 1) := by decide +kernel
theorem dX12_closes_140 : decode cX12_closes 140 = .ok (.ireturn, 1) := by decide +kernel
theorem dX12_closes_141 : decode cX12_closes 141 = .ok (.iinc 4 1, 3) := by decide +kernel
theorem dX12_closes_144 : decode cX12_closes 144 = .ok (.goto (-95), 3) := by decide +kernel
theorem dX12_closes_147 : decode cX12_closes 147 = .ok (.iconst 0, 1) := by decide +kernel
theorem dX12_closes_148 : decode cX12_closes 148 = .ok (.ireturn, 1) := by decide +kernel
set_option maxRecDepth 20000 in
set_option maxRecDepth 100000 in
theorem ggX12_ringNext_X12_hens : GoodIn wsX12_ringNext wsX12_hens := goodIn_r _ [6, 7, 13, 14, 15, 16, 17, 18, 19, 20, 21, 22, 23, 24, 25, 26, 27, 28, 29, 30] rfl (by decide +kernel)
set_option maxRecDepth 20000 in
theorem gX12_ringNext_X12_hens : GoodIn wsX12_ringNext (wsV RX12 53 RX12 yX12_hens wsX12_hens) := goodIn_app (goodIn_of _ (by decide +kernel)) ggX12_ringNext_X12_hens
set_option maxRecDepth 20000 in
set_option maxRecDepth 100000 in
theorem ggX12_ringNext_X12_closes : GoodIn wsX12_ringNext wsX12_closes := goodIn_r _ [11, 1, 12, 2, 3, 4, 5, 6, 7, 8, 9, 10, 13, 14, 15, 16, 17, 18, 19, 20, 21, 22, 23, 24, 25, 26, 27, 28, 29, 30] rfl (by decide +kernel)
set_option maxRecDepth 20000 in
theorem gX12_ringNext_X12_closes : GoodIn wsX12_ringNext (wsV RX12 209 RX12 yX12_closes wsX12_closes) := goodIn_app (goodIn_of _ (by decide +kernel)) ggX12_ringNext_X12_closes
theorem dX12_ringNext_0 : decode cX12_ringNext 0 = .ok (.iconst 2, 1) := by decide +kernel
theorem dX12_ringNext_1 : decode cX12_ringNext 1 = .ok (.istore_n 1, 1) := by decide +kernel
theorem dX12_ringNext_2 : decode cX12_ringNext 2 = .ok (.iload_n 1, 1) := by decide +kernel
theorem dX12_ringNext_3 : decode cX12_ringNext 3 = .ok (.aload_n 0, 1) := by decide +kernel
theorem dX12_ringNext_4 : decode cX12_ringNext 4 = .ok (.invokevirtual 53, 3) := by decide +kernel
