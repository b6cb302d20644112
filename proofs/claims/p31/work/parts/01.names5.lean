theorem dX11_shift_20 : decode cX11_shift 20 = .ok (.iadd, 1) := by decide +kernel
theorem dX11_shift_21 : decode cX11_shift 21 = .ok (.iaload, 1) := by decide +kernel
theorem dX11_shift_22 : decode cX11_shift 22 = .ok (.iastore, 1) := by decide +kernel
theorem dX11_shift_23 : decode cX11_shift 23 = .ok (.iinc 4 1, 3) := by decide +kernel
theorem dX11_shift_26 : decode cX11_shift 26 = .ok (.goto (-19), 3) := by decide +kernel
theorem dX11_shift_29 : decode cX11_shift 29 = .ok (.iload_n 1, 1) := by decide +kernel
theorem dX11_shift_30 : decode cX11_shift 30 = .ok (.istore 4, 2) := by decide +kernel
theorem dX11_shift_32 : decode cX11_shift 32 = .ok (.iload 4, 2) := by decide +kernel
theorem dX11_shift_34 : decode cX11_shift 34 = .ok (.iload_n 2, 1) := by decide +kernel
theorem dX11_shift_35 : decode cX11_shift 35 = .ok (.if_icmp .le 19, 3) := by decide +kernel
theorem dX11_shift_38 : decode cX11_shift 38 = .ok (.aload_n 0, 1) := by decide +kernel
theorem dX11_shift_39 : decode cX11_shift 39 = .ok (.iload 4, 2) := by decide +kernel
theorem dX11_shift_41 : decode cX11_shift 41 = .ok (.aload_n 0, 1) := by decide +kernel
theorem dX11_shift_42 : decode cX11_shift 42 = .ok (.iload 4, 2) := by decide +kernel
theorem dX11_shift_44 : decode cX11_shift 44 = .ok (.iconst 1, 1) := by decide +kernel
theorem dX11_shift_45 : decode cX11_shift 45 = .ok (.isub, 1) := by decide +kernel
theorem dX11_shift_46 : decode cX11_shift 46 = .ok (.iaload, 1) := by decide +kernel
theorem dX11_shift_47 : decode cX11_shift 47 = .ok (.iastore, 1) := by decide +kernel
theorem dX11_shift_48 : decode cX11_shift 48 = .ok (.iinc 4 (-1), 3) := by decide +kernel
theorem dX11_shift_51 : decode cX11_shift 51 = .ok (.goto (-19), 3) := by decide +kernel
theorem dX11_shift_54 : decode cX11_shift 54 = .ok (.aload_n 0, 1) := by decide +kernel
theorem dX11_shift_55 : decode cX11_shift 55 = .ok (.iload_n 2, 1) := by decide +kernel
theorem dX11_shift_56 : decode cX11_shift 56 = .ok (.iload_n 3, 1) := by decide +kernel
theorem dX11_shift_57 : decode cX11_shift 57 = .ok (.iastore, 1) := by decide +kernel
theorem dX11_shift_58 : decode cX11_shift 58 = .ok (.return_, 1) := by decide +kernel
theorem dX12_init_0 : decode cX12_init 0 = .ok (.aload_n 0, 1) := by decide +kernel
theorem dX12_init_1 : decode cX12_init 1 = .ok (.invokespecial 1, 3) := by decide +kernel
theorem dX12_init_4 : decode cX12_init 4 = .ok (.aload_n 0, 1) := by decide +kernel
theorem dX12_init_5 : decode cX12_init 5 = .ok (.sipush 193, 3) := by decide +kernel
theorem dX12_init_8 : decode cX12_init 8 = .ok (.newarray .int, 2) := by decide +kernel
theorem dX12_init_10 : decode cX12_init 10 = .ok (.putfield 7, 3) := by decide +kernel
theorem dX12_init_13 : decode cX12_init 13 = .ok (.aload_n 0, 1) := by decide +kernel
theorem dX12_init_14 : decode cX12_init 14 = .ok (.sipush 1544, 3) := by decide +kernel
theorem dX12_init_17 : decode cX12_init 17 = .ok (.newarray .int, 2) := by decide +kernel
theorem dX12_init_19 : decode cX12_init 19 = .ok (.putfield 13, 3) := by decide +kernel
theorem dX12_init_22 : decode cX12_init 22 = .ok (.aload_n 0, 1) := by decide +kernel
theorem dX12_init_23 : decode cX12_init 23 = .ok (.bipush 12, 2) := by decide +kernel
theorem dX12_init_25 : decode cX12_init 25 = .ok (.newarray .int, 2) := by decide +kernel
theorem dX12_init_27 : decode cX12_init 27 = .ok (.putfield 16, 3) := by decide +kernel
theorem dX12_init_30 : decode cX12_init 30 = .ok (.aload_n 0, 1) := by decide +kernel
theorem dX12_init_31 : decode cX12_init 31 = .ok (.ldc 19, 2) := by decide +kernel
theorem dX12_init_33 : decode cX12_init 33 = .ok (.newarray .long, 2) := by decide +kernel
theorem dX12_init_35 : decode cX12_init 35 = .ok (.putfield 20, 3) := by decide +kernel
theorem dX12_init_38 : decode cX12_init 38 = .ok (.aload_n 0, 1) := by decide +kernel
theorem dX12_init_39 : decode cX12_init 39 = .ok (.ldc 19, 2) := by decide +kernel
theorem dX12_init_41 : decode cX12_init 41 = .ok (.newarray .long, 2) := by decide +kernel
theorem dX12_init_43 : decode cX12_init 43 = .ok (.putfield 24, 3) := by decide +kernel
theorem dX12_init_46 : decode cX12_init 46 = .ok (.aload_n 0, 1) := by decide +kernel
theorem dX12_init_47 : decode cX12_init 47 = .ok (.sipush 144, 3) := by decide +kernel
theorem dX12_init_50 : decode cX12_init 50 = .ok (.newarray .boolean, 2) := by decide +kernel
theorem dX12_init_52 : decode cX12_init 52 = .ok (.putfield 27, 3) := by decide +kernel
theorem dX12_init_55 : decode cX12_init 55 = .ok (.aload_n 0, 1) := by decide +kernel
theorem dX12_init_56 : decode cX12_init 56 = .ok (.bipush 12, 2) := by decide +kernel
theorem dX12_init_58 : decode cX12_init 58 = .ok (.newarray .int, 2) := by decide +kernel
theorem dX12_init_60 : decode cX12_init 60 = .ok (.putfield 31, 3) := by decide +kernel
theorem dX12_init_63 : decode cX12_init 63 = .ok (.aload_n 0, 1) := by decide +kernel
theorem dX12_init_64 : decode cX12_init 64 = .ok (.sipush 144, 3) := by decide +kernel
theorem dX12_init_67 : decode cX12_init 67 = .ok (.newarray .boolean, 2) := by decide +kernel
theorem dX12_init_69 : decode cX12_init 69 = .ok (.putfield 34, 3) := by decide +kernel
theorem dX12_init_72 : decode cX12_init 72 = .ok (.aload_n 0, 1) := by decide +kernel
theorem dX12_init_73 : decode cX12_init 73 = .ok (.bipush 12, 2) := by decide +kernel
theorem dX12_init_75 : decode cX12_init 75 = .ok (.newarray .int, 2) := by decide +kernel
theorem dX12_init_77 : decode cX12_init 77 = .ok (.putfield 37, 3) := by decide +kernel
theorem dX12_init_80 : decode cX12_init 80 = .ok (.aload_n 0, 1) := by decide +kernel
theorem dX12_init_81 : decode cX12_init 81 = .ok (.sipush 144, 3) := by decide +kernel
theorem dX12_init_84 : decode cX12_init 84 = .ok (.newarray .int, 2) := by decide +kernel
theorem dX12_init_86 : decode cX12_init 86 = .ok (.putfield 40, 3) := by decide +kernel
theorem dX12_init_89 : decode cX12_init 89 = .ok (.aload_n 0, 1) := by decide +kernel
theorem dX12_init_90 : decode cX12_init 90 = .ok (.bipush 12, 2) := by decide +kernel
theorem dX12_init_92 : decode cX12_init 92 = .ok (.newarray .int, 2) := by decide +kernel
theorem dX12_init_94 : decode cX12_init 94 = .ok (.putfield 43, 3) := by decide +kernel
theorem dX12_init_97 : decode cX12_init 97 = .ok (.aload_n 0, 1) := by decide +kernel
theorem dX12_init_98 : decode cX12_init 98 = .ok (.sipush 1960, 3) := by decide +kernel
theorem dX12_init_101 : decode cX12_init 101 = .ok (.newarray .long, 2) := by decide +kernel
theorem dX12_init_103 : decode cX12_init 103 = .ok (.putfield 46, 3) := by decide +kernel
theorem dX12_init_106 : decode cX12_init 106 = .ok (.aload_n 0, 1) := by decide +kernel
theorem dX12_init_107 : decode cX12_init 107 = .ok (.iconst 0, 1) := by decide +kernel
theorem dX12_init_108 : decode cX12_init 108 = .ok (.putfield 49, 3) := by decide +kernel
theorem dX12_init_111 : decode cX12_init 111 = .ok (.return_, 1) := by decide +kernel
theorem dX12_isIn_0 : decode cX12_isIn 0 = .ok (.lload_n 0, 1) := by decide +kernel
theorem dX12_isIn_1 : decode cX12_isIn 1 = .ok (.lload_n 2, 1) := by decide +kernel
theorem dX12_isIn_2 : decode cX12_isIn 2 = .ok (.lcmp, 1) := by decide +kernel
theorem dX12_isIn_3 : decode cX12_isIn 3 = .ok (.ifCond .lt 14, 3) := by decide +kernel
theorem dX12_isIn_6 : decode cX12_isIn 6 = .ok (.lload_n 0, 1) := by decide +kernel
theorem dX12_isIn_7 : decode cX12_isIn 7 = .ok (.lload 4, 2) := by decide +kernel
theorem dX12_isIn_9 : decode cX12_isIn 9 = .ok (.lcmp, 1) := by decide +kernel
theorem dX12_isIn_10 : decode cX12_isIn 10 = .ok (.ifCond .gt 7, 3) := by decide +kernel
theorem dX12_isIn_13 : decode cX12_isIn 13 = .ok (.iconst 1, 1) := by decide +kernel
theorem dX12_isIn_14 : decode cX12_isIn 14 = .ok (.goto 4, 3) := by decide +kernel
theorem dX12_isIn_17 : decode cX12_isIn 17 = .ok (.iconst 0, 1) := by decide +kernel
theorem dX12_isIn_18 : decode cX12_isIn 18 = .ok (.ireturn, 1) := by decide +kernel
theorem dX12_hens_0 : decode cX12_hens 0 = .ok (.aload_n 0, 1) := by decide +kernel
theorem dX12_hens_1 : decode cX12_hens 1 = .ok (.getfield 7, 3) := by decide +kernel
theorem dX12_hens_4 : decode cX12_hens 4 = .ok (.iconst 0, 1) := by decide +kernel
theorem dX12_hens_5 : decode cX12_hens 5 = .ok (.iaload, 1) := by decide +kernel
theorem dX12_hens_6 : decode cX12_hens 6 = .ok (.ireturn, 1) := by decide +kernel
set_option maxRecDepth 20000 in
set_option maxRecDepth 100000 in
theorem ggX12_isHen_X12_hens : GoodIn wsX12_isHen wsX12_hens := goodIn_r _ [5, 6, 10, 11, 12, 13, 14, 15, 16, 17, 18, 19, 20, 21, 22, 23, 24, 25, 26, 27] rfl (by decide +kernel)
set_option maxRecDepth 20000 in
theorem gX12_isHen_X12_hens : GoodIn wsX12_isHen (wsV RX12 53 RX12 yX12_hens wsX12_hens) := goodIn_app (goodIn_of _ (by decide +kernel)) ggX12_isHen_X12_hens
set_option maxRecDepth 20000 in
set_option maxRecDepth 100000 in
theorem ggX12_isHen_X12_isIn : GoodIn wsX12_isHen wsX12_isIn := goodIn_r _ [9] rfl (by decide +kernel)
set_option maxRecDepth 20000 in
theorem gX12_isHen_X12_isIn : GoodIn wsX12_isHen (va_wsS RX12 57 yX12_isIn wsX12_isIn) := goodIn_app (goodIn_of _ (by decide +kernel)) ggX12_isHen_X12_isIn
theorem dX12_isHen_0 : decode cX12_isHen 0 = .ok (.iload_n 1, 1) := by decide +kernel
theorem dX12_isHen_1 : decode cX12_isHen 1 = .ok (.i2l, 1) := by decide +kernel
theorem dX12_isHen_2 : decode cX12_isHen 2 = .ok (.lconst 0, 1) := by decide +kernel
theorem dX12_isHen_3 : decode cX12_isHen 3 = .ok (.aload_n 0, 1) := by decide +kernel
theorem dX12_isHen_4 : decode cX12_isHen 4 = .ok (.invokevirtual 53, 3) := by decide +kernel
theorem dX12_isHen_7 : decode cX12_isHen 7 = .ok (.iconst 1, 1) := by decide +kernel
theorem dX12_isHen_8 : decode cX12_isHen 8 = .ok (.isub, 1) := by decide +kernel
theorem dX12_isHen_9 : decode cX12_isHen 9 = .ok (.i2l, 1) := by decide +kernel
theorem dX12_isHen_10 : decode cX12_isHen 10 = .ok (.invokestatic 57, 3) := by decide +kernel
theorem dX12_isHen_13 : decode cX12_isHen 13 = .ok (.ireturn, 1) := by decide +kernel
theorem dX12_kind_0 : decode cX12_kind 0 = .ok (.aload_n 0, 1) := by decide +kernel
theorem dX12_kind_1 : decode cX12_kind 1 = .ok (.getfield 7, 3) := by decide +kernel
theorem dX12_kind_4 : decode cX12_kind 4 = .ok (.iconst 1, 1) := by decide +kernel
theorem dX12_kind_5 : decode cX12_kind 5 = .ok (.iload_n 1, 1) := by decide +kernel
theorem dX12_kind_6 : decode cX12_kind 6 = .ok (.iadd, 1) := by decide +kernel
theorem dX12_kind_7 : decode cX12_kind 7 = .ok (.iaload, 1) := by decide +kernel
theorem dX12_kind_8 : decode cX12_kind 8 = .ok (.ireturn, 1) := by decide +kernel
theorem dX12_asks_0 : decode cX12_asks 0 = .ok (.aload_n 0, 1) := by decide +kernel
theorem dX12_asks_1 : decode cX12_asks 1 = .ok (.getfield 7, 3) := by decide +kernel
theorem dX12_asks_4 : decode cX12_asks 4 = .ok (.bipush 13, 2) := by decide +kernel
theorem dX12_asks_6 : decode cX12_asks 6 = .ok (.iload_n 1, 1) := by decide +kernel
theorem dX12_asks_7 : decode cX12_asks 7 = .ok (.iadd, 1) := by decide +kernel
theorem dX12_asks_8 : decode cX12_asks 8 = .ok (.iaload, 1) := by decide +kernel
theorem dX12_asks_9 : decode cX12_asks 9 = .ok (.ireturn, 1) := by decide +kernel
theorem dX12_width_0 : decode cX12_width 0 = .ok (.aload_n 0, 1) := by decide +kernel
theorem dX12_width_1 : decode cX12_width 1 = .ok (.getfield 7, 3) := by decide +kernel
theorem dX12_width_4 : decode cX12_width 4 = .ok (.bipush 37, 2) := by decide +kernel
theorem dX12_width_6 : decode cX12_width 6 = .ok (.iload_n 1, 1) := by decide +kernel
theorem dX12_width_7 : decode cX12_width 7 = .ok (.iadd, 1) := by decide +kernel
theorem dX12_width_8 : decode cX12_width 8 = .ok (.iaload, 1) := by decide +kernel
theorem dX12_width_9 : decode cX12_width 9 = .ok (.ireturn, 1) := by decide +kernel
theorem dX12_peckOf_0 : decode cX12_peckOf 0 = .ok (.aload_n 0, 1) := by decide +kernel
theorem dX12_peckOf_1 : decode cX12_peckOf 1 = .ok (.getfield 7, 3) := by decide +kernel
theorem dX12_peckOf_4 : decode cX12_peckOf 4 = .ok (.bipush 49, 2) := by decide +kernel
theorem dX12_peckOf_6 : decode cX12_peckOf 6 = .ok (.bipush 12, 2) := by decide +kernel
theorem dX12_peckOf_8 : decode cX12_peckOf 8 = .ok (.iload_n 1, 1) := by decide +kernel
theorem dX12_peckOf_9 : decode cX12_peckOf 9 = .ok (.imul, 1) := by decide +kernel
theorem dX12_peckOf_10 : decode cX12_peckOf 10 = .ok (.iadd, 1) := by decide +kernel
theorem dX12_peckOf_11 : decode cX12_peckOf 11 = .ok (.iload_n 2, 1) := by decide +kernel
theorem dX12_peckOf_12 : decode cX12_peckOf 12 = .ok (.iadd, 1) := by decide +kernel
theorem dX12_peckOf_13 : decode cX12_peckOf 13 = .ok (.iaload, 1) := by decide +kernel
theorem dX12_peckOf_14 : decode cX12_peckOf 14 = .ok (.ireturn, 1) := by decide +kernel
theorem dX12_keep_0 : decode cX12_keep 0 = .ok (.aload_n 0, 1) := by decide +kernel
theorem dX12_keep_1 : decode cX12_keep 1 = .ok (.getfield 49, 3) := by decide +kernel
theorem dX12_keep_4 : decode cX12_keep 4 = .ok (.bipush 8, 2) := by decide +kernel
theorem dX12_keep_6 : decode cX12_keep 6 = .ok (.if_icmp .ne 44, 3) := by decide +kernel
theorem dX12_keep_9 : decode cX12_keep 9 = .ok (.iconst 0, 1) := by decide +kernel
theorem dX12_keep_10 : decode cX12_keep 10 = .ok (.istore_n 1, 1) := by decide +kernel
theorem dX12_keep_11 : decode cX12_keep 11 = .ok (.iload_n 1, 1) := by decide +kernel
theorem dX12_keep_12 : decode cX12_keep 12 = .ok (.sipush 1351, 3) := by decide +kernel
theorem dX12_keep_15 : decode cX12_keep 15 = .ok (.if_icmp .ge 25, 3) := by decide +kernel
theorem dX12_keep_18 : decode cX12_keep 18 = .ok (.aload_n 0, 1) := by decide +kernel
theorem dX12_keep_19 : decode cX12_keep 19 = .ok (.getfield 13, 3) := by decide +kernel
theorem dX12_keep_22 : decode cX12_keep 22 = .ok (.iload_n 1, 1) := by decide +kernel
theorem dX12_keep_23 : decode cX12_keep 23 = .ok (.aload_n 0, 1) := by decide +kernel
theorem dX12_keep_24 : decode cX12_keep 24 = .ok (.getfield 13, 3) := by decide +kernel
theorem dX12_keep_27 : decode cX12_keep 27 = .ok (.iload_n 1, 1) := by decide +kernel
theorem dX12_keep_28 : decode cX12_keep 28 = .ok (.sipush 193, 3) := by decide +kernel
theorem dX12_keep_31 : decode cX12_keep 31 = .ok (.iadd, 1) := by decide +kernel
theorem dX12_keep_32 : decode cX12_keep 32 = .ok (.iaload, 1) := by decide +kernel
theorem dX12_keep_33 : decode cX12_keep 33 = .ok (.iastore, 1) := by decide +kernel
theorem dX12_keep_34 : decode cX12_keep 34 = .ok (.iinc 1 1, 3) := by decide +kernel
theorem dX12_keep_37 : decode cX12_keep 37 = .ok (.goto (-26), 3) := by decide +kernel
theorem dX12_keep_40 : decode cX12_keep 40 = .ok (.aload_n 0, 1) := by decide +kernel
theorem dX12_keep_41 : decode cX12_keep 41 = .ok (.dup, 1) := by decide +kernel
theorem dX12_keep_42 : decode cX12_keep 42 = .ok (.getfield 49, 3) := by decide +kernel
theorem dX12_keep_45 : decode cX12_keep 45 = .ok (.iconst 1, 1) := by decide +kernel
theorem dX12_keep_46 : decode cX12_keep 46 = .ok (.isub, 1) := by decide +kernel
theorem dX12_keep_47 : decode cX12_keep 47 = .ok (.putfield 49, 3) := by decide +kernel
theorem dX12_keep_50 : decode cX12_keep 50 = .ok (.iconst 0, 1) := by decide +kernel
theorem dX12_keep_51 : decode cX12_keep 51 = .ok (.istore_n 1, 1) := by decide +kernel
theorem dX12_keep_52 : decode cX12_keep 52 = .ok (.iload_n 1, 1) := by decide +kernel
theorem dX12_keep_53 : decode cX12_keep 53 = .ok (.sipush 193, 3) := by decide +kernel
theorem dX12_keep_56 : decode cX12_keep 56 = .ok (.if_icmp .ge 30, 3) := by decide +kernel
theorem dX12_keep_59 : decode cX12_keep 59 = .ok (.aload_n 0, 1) := by decide +kernel
theorem dX12_keep_60 : decode cX12_keep 60 = .ok (.getfield 13, 3) := by decide +kernel
theorem dX12_keep_63 : decode cX12_keep 63 = .ok (.sipush 193, 3) := by decide +kernel
theorem dX12_keep_66 : decode cX12_keep 66 = .ok (.aload_n 0, 1) := by decide +kernel
theorem dX12_keep_67 : decode cX12_keep 67 = .ok (.getfield 49, 3) := by decide +kernel
theorem dX12_keep_70 : decode cX12_keep 70 = .ok (.imul, 1) := by decide +kernel
theorem dX12_keep_71 : decode cX12_keep 71 = .ok (.iload_n 1, 1) := by decide +kernel
theorem dX12_keep_72 : decode cX12_keep 72 = .ok (.iadd, 1) := by decide +kernel
theorem dX12_keep_73 : decode cX12_keep 73 = .ok (.aload_n 0, 1) := by decide +kernel
theorem dX12_keep_74 : decode cX12_keep 74 = .ok (.getfield 7, 3) := by decide +kernel
theorem dX12_keep_77 : decode cX12_keep 77 = .ok (.iload_n 1, 1) := by decide +kernel
theorem dX12_keep_78 : decode cX12_keep 78 = .ok (.iaload, 1) := by decide +kernel
theorem dX12_keep_79 : decode cX12_keep 79 = .ok (.iastore, 1) := by decide +kernel
theorem dX12_keep_80 : decode cX12_keep 80 = .ok (.iinc 1 1, 3) := by decide +kernel
theorem dX12_keep_83 : decode cX12_keep 83 = .ok (.goto (-31), 3) := by decide +kernel
theorem dX12_keep_86 : decode cX12_keep 86 = .ok (.aload_n 0, 1) := by decide +kernel
theorem dX12_keep_87 : decode cX12_keep 87 = .ok (.dup, 1) := by decide +kernel
theorem dX12_keep_88 : decode cX12_keep 88 = .ok (.getfield 49, 3) := by decide +kernel
theorem dX12_keep_91 : decode cX12_keep 91 = .ok (.iconst 1, 1) := by decide +kernel
theorem dX12_keep_92 : decode cX12_keep 92 = .ok (.iadd, 1) := by decide +kernel
theorem dX12_keep_93 : decode cX12_keep 93 = .ok (.putfield 49, 3) := by decide +kernel
theorem dX12_keep_96 : decode cX12_keep 96 = .ok (.return_, 1) := by decide +kernel
theorem dX12_undo_0 : decode cX12_undo 0 = .ok (.aload_n 0, 1) := by decide +kernel
theorem dX12_undo_1 : decode cX12_undo 1 = .ok (.getfield 49, 3) := by decide +kernel
theorem dX12_undo_4 : decode cX12_undo 4 = .ok (.ifCond .ne 7, 3) := by decide +kernel
theorem dX12_undo_7 : decode cX12_undo 7 = .ok (.ldc2_w 61, 3) := by decide +kernel
theorem dX12_undo_10 : decode cX12_undo 10 = .ok (.lreturn, 1) := by decide +kernel
theorem dX12_undo_11 : decode cX12_undo 11 = .ok (.aload_n 0, 1) := by decide +kernel
theorem dX12_undo_12 : decode cX12_undo 12 = .ok (.dup, 1) := by decide +kernel
theorem dX12_undo_13 : decode cX12_undo 13 = .ok (.getfield 49, 3) := by decide +kernel
theorem dX12_undo_16 : decode cX12_undo 16 = .ok (.iconst 1, 1) := by decide +kernel
theorem dX12_undo_17 : decode cX12_undo 17 = .ok (.isub, 1) := by decide +kernel
theorem dX12_undo_18 : decode cX12_undo 18 = .ok (.putfield 49, 3) := by decide +kernel
theorem dX12_undo_21 : decode cX12_undo 21 = .ok (.iconst 0, 1) := by decide +kernel
theorem dX12_undo_22 : decode cX12_undo 22 = .ok (.istore_n 1, 1) := by decide +kernel
theorem dX12_undo_23 : decode cX12_undo 23 = .ok (.iload_n 1, 1) := by decide +kernel
theorem dX12_undo_24 : decode cX12_undo 24 = .ok (.sipush 193, 3) := by decide +kernel
theorem dX12_undo_27 : decode cX12_undo 27 = .ok (.if_icmp .ge 30, 3) := by decide +kernel
theorem dX12_undo_30 : decode cX12_undo 30 = .ok (.aload_n 0, 1) := by decide +kernel
theorem dX12_undo_31 : decode cX12_undo 31 = .ok (.getfield 7, 3) := by decide +kernel
theorem dX12_undo_34 : decode cX12_undo 34 = .ok (.iload_n 1, 1) := by decide +kernel
theorem dX12_undo_35 : decode cX12_undo 35 = .ok (.aload_n 0, 1) := by decide +kernel
theorem dX12_undo_36 : decode cX12_undo 36 = .ok (.getfield 13, 3) := by decide +kernel
theorem dX12_undo_39 : decode cX12_undo 39 = .ok (.sipush 193, 3) := by decide +kernel
theorem dX12_undo_42 : decode cX12_undo 42 = .ok (.aload_n 0, 1) := by decide +kernel
theorem dX12_undo_43 : decode cX12_undo 43 = .ok (.getfield 49, 3) := by decide +kernel
theorem dX12_undo_46 : decode cX12_undo 46 = .ok (.imul, 1) := by decide +kernel
theorem dX12_undo_47 : decode cX12_undo 47 = .ok (.iload_n 1, 1) := by decide +kernel
theorem dX12_undo_48 : decode cX12_undo 48 = .ok (.iadd, 1) := by decide +kernel
theorem dX12_undo_49 : decode cX12_undo 49 = .ok (.iaload, 1) := by decide +kernel
theorem dX12_undo_50 : decode cX12_undo 50 = .ok (.iastore, 1) := by decide +kernel
theorem dX12_undo_51 : decode cX12_undo 51 = .ok (.iinc 1 1, 3) := by decide +kernel
theorem dX12_undo_54 : decode cX12_undo 54 = .ok (.goto (-31), 3) := by decide +kernel
theorem dX12_undo_57 : decode cX12_undo 57 = .ok (.aload_n 0, 1) := by decide +kernel
theorem dX12_undo_58 : decode cX12_undo 58 = .ok (.getfield 49, 3) := by decide +kernel
theorem dX12_undo_61 : decode cX12_undo 61 = .ok (.i2l, 1) := by decide +kernel
theorem dX12_undo_62 : decode cX12_undo 62 = .ok (.lreturn, 1) := by decide +kernel
set_option maxRecDepth 20000 in
set_option maxRecDepth 100000 in
theorem ggX12_mayAsk_X12_isIn : GoodIn wsX12_mayAsk wsX12_isIn := goodIn_r _ [6] rfl (by decide +kernel)
set_option maxRecDepth 20000 in
theorem gX12_mayAsk_X12_isIn : GoodIn wsX12_mayAsk (va_wsS RX12 57 yX12_isIn wsX12_isIn) := goodIn_app (goodIn_of _ (by decide +kernel)) ggX12_mayAsk_X12_isIn
theorem dX12_mayAsk_0 : decode cX12_mayAsk 0 = .ok (.iload_n 1, 1) := by decide +kernel
theorem dX12_mayAsk_1 : decode cX12_mayAsk 1 = .ok (.ldc 63, 2) := by decide +kernel
theorem dX12_mayAsk_3 : decode cX12_mayAsk 3 = .ok (.if_icmp .eq 20, 3) := by decide +kernel
theorem dX12_mayAsk_6 : decode cX12_mayAsk 6 = .ok (.iload_n 1, 1) := by decide +kernel
theorem dX12_mayAsk_7 : decode cX12_mayAsk 7 = .ok (.i2l, 1) := by decide +kernel
theorem dX12_mayAsk_8 : decode cX12_mayAsk 8 = .ok (.lconst 0, 1) := by decide +kernel
theorem dX12_mayAsk_9 : decode cX12_mayAsk 9 = .ok (.ldc2_w 64, 3) := by decide +kernel
theorem dX12_mayAsk_12 : decode cX12_mayAsk 12 = .ok (.invokestatic 57, 3) := by decide +kernel
theorem dX12_mayAsk_15 : decode cX12_mayAsk 15 = .ok (.ifCond .eq 12, 3) := by decide +kernel
theorem dX12_mayAsk_18 : decode cX12_mayAsk 18 = .ok (.iload_n 1, 1) := by decide +kernel
theorem dX12_mayAsk_19 : decode cX12_mayAsk 19 = .ok (.iload_n 0, 1) := by decide +kernel
theorem dX12_mayAsk_20 : decode cX12_mayAsk 20 = .ok (.if_icmp .eq 7, 3) := by decide +kernel
theorem dX12_mayAsk_23 : decode cX12_mayAsk 23 = .ok (.iconst 1, 1) := by decide +kernel
theorem dX12_mayAsk_24 : decode cX12_mayAsk 24 = .ok (.goto 4, 3) := by decide +kernel
theorem dX12_mayAsk_27 : decode cX12_mayAsk 27 = .ok (.iconst 0, 1) := by decide +kernel
theorem dX12_mayAsk_28 : decode cX12_mayAsk 28 = .ok (.ireturn, 1) := by decide +kernel
theorem dX12_empty_0 : decode cX12_empty 0 = .ok (.aload_n 0, 1) := by decide +kernel
theorem dX12_empty_1 : decode cX12_empty 1 = .ok (.getfield 7, 3) := by decide +kernel
theorem dX12_empty_4 : decode cX12_empty 4 = .ok (.bipush 37, 2) := by decide +kernel
theorem dX12_empty_6 : decode cX12_empty 6 = .ok (.iload_n 1, 1) := by decide +kernel
theorem dX12_empty_7 : decode cX12_empty 7 = .ok (.iadd, 1) := by decide +kernel
theorem dX12_empty_8 : decode cX12_empty 8 = .ok (.iload_n 2, 1) := by decide +kernel
theorem dX12_empty_9 : decode cX12_empty 9 = .ok (.iastore, 1) := by decide +kernel
theorem dX12_empty_10 : decode cX12_empty 10 = .ok (.iconst 0, 1) := by decide +kernel
theorem dX12_empty_11 : decode cX12_empty 11 = .ok (.istore_n 3, 1) := by decide +kernel
theorem dX12_empty_12 : decode cX12_empty 12 = .ok (.iload_n 3, 1) := by decide +kernel
theorem dX12_empty_13 : decode cX12_empty 13 = .ok (.bipush 12, 2) := by decide +kernel
theorem dX12_empty_15 : decode cX12_empty 15 = .ok (.if_icmp .ge 24, 3) := by decide +kernel
theorem dX12_empty_18 : decode cX12_empty 18 = .ok (.aload_n 0, 1) := by decide +kernel
theorem dX12_empty_19 : decode cX12_empty 19 = .ok (.getfield 7, 3) := by decide +kernel
theorem dX12_empty_22 : decode cX12_empty 22 = .ok (.bipush 49, 2) := by decide +kernel
theorem dX12_empty_24 : decode cX12_empty 24 = .ok (.bipush 12, 2) := by decide +kernel
theorem dX12_empty_26 : decode cX12_empty 26 = .ok (.iload_n 1, 1) := by decide +kernel
theorem dX12_empty_27 : decode cX12_empty 27 = .ok (.imul, 1) := by decide +kernel
theorem dX12_empty_28 : decode cX12_empty 28 = .ok (.iadd, 1) := by decide +kernel
theorem dX12_empty_29 : decode cX12_empty 29 = .ok (.iload_n 3, 1) := by decide +kernel
theorem dX12_empty_30 : decode cX12_empty 30 = .ok (.iadd, 1) := by decide +kernel
theorem dX12_empty_31 : decode cX12_empty 31 = .ok (.iconst 0, 1) := by decide +kernel
theorem dX12_empty_32 : decode cX12_empty 32 = .ok (.iastore, 1) := by decide +kernel
theorem dX12_empty_33 : decode cX12_empty 33 = .ok (.iinc 3 1, 3) := by decide +kernel
theorem dX12_empty_36 : decode cX12_empty 36 = .ok (.goto (-24), 3) := by decide +kernel
theorem dX12_empty_39 : decode cX12_empty 39 = .ok (.return_, 1) := by decide +kernel
set_option maxRecDepth 20000 in
set_option maxRecDepth 100000 in
theorem ggX12_hen_X12_hens : GoodIn wsX12_hen wsX12_hens := goodIn_r _ [9, 4, 28, 29, 30, 31, 32, 33, 34, 35, 36, 37, 38, 39, 40, 41, 42, 43, 44, 45] rfl (by decide +kernel)
set_option maxRecDepth 20000 in
theorem gX12_hen_X12_hens : GoodIn wsX12_hen (wsV RX12 53 RX12 yX12_hens wsX12_hens) := goodIn_app (goodIn_of _ (by decide +kernel)) ggX12_hen_X12_hens
set_option maxRecDepth 20000 in
set_option maxRecDepth 100000 in
theorem ggX12_hen_X12_isIn : GoodIn wsX12_hen wsX12_isIn := goodIn_r _ [12] rfl (by decide +kernel)
set_option maxRecDepth 20000 in
theorem gX12_hen_X12_isIn : GoodIn wsX12_hen (va_wsS RX12 57 yX12_isIn wsX12_isIn) := goodIn_app (goodIn_of _ (by decide +kernel)) ggX12_hen_X12_isIn
set_option maxRecDepth 20000 in
set_option maxRecDepth 100000 in
theorem ggX12_hen_X12_mayAsk : GoodIn wsX12_hen wsX12_mayAsk := goodIn_r _ [15, 16, 17, 10, 11, 8, 12] rfl (by decide +kernel)
set_option maxRecDepth 20000 in
theorem gX12_hen_X12_mayAsk : GoodIn wsX12_hen (va_wsS RX12 68 yX12_mayAsk wsX12_mayAsk) := goodIn_app (goodIn_of _ (by decide +kernel)) ggX12_hen_X12_mayAsk
set_option maxRecDepth 20000 in
set_option maxRecDepth 100000 in
theorem ggX12_hen_X12_keep : GoodIn wsX12_hen wsX12_keep := goodIn_r _ [21, 22, 23, 4, 28, 29, 30, 31, 32, 33, 34, 35, 36, 37, 38, 39, 40, 41, 42, 43, 44, 45] rfl (by decide +kernel)
set_option maxRecDepth 20000 in
theorem gX12_hen_X12_keep : GoodIn wsX12_hen (wsV RX12 76 RX12 yX12_keep wsX12_keep) := goodIn_app (goodIn_of _ (by decide +kernel)) ggX12_hen_X12_keep
set_option maxRecDepth 20000 in
set_option maxRecDepth 100000 in
theorem ggX12_hen_X12_empty : GoodIn wsX12_hen wsX12_empty := goodIn_r _ [27, 4, 28, 29, 30, 31, 32, 33, 34, 35, 36, 37, 38, 39, 40, 41, 42, 43, 44, 45] rfl (by decide +kernel)
set_option maxRecDepth 20000 in
theorem gX12_hen_X12_empty : GoodIn wsX12_hen (wsV RX12 79 RX12 yX12_empty wsX12_empty) := goodIn_app (goodIn_of _ (by decide +kernel)) ggX12_hen_X12_empty
theorem dX12_hen_0 : decode cX12_hen 0 = .ok (.aload_n 0, 1) := by decide +kernel
theorem dX12_hen_1 : decode cX12_hen 1 = .ok (.invokevirtual 53, 3) := by decide +kernel
theorem dX12_hen_4 : decode cX12_hen 4 = .ok (.istore_n 3, 1) := by decide +kernel
theorem dX12_hen_5 : decode cX12_hen 5 = .ok (.iload_n 1, 1) := by decide +kernel
theorem dX12_hen_6 : decode cX12_hen 6 = .ok (.i2l, 1) := by decide +kernel
theorem dX12_hen_7 : decode cX12_hen 7 = .ok (.lconst 0, 1) := by decide +kernel
theorem dX12_hen_8 : decode cX12_hen 8 = .ok (.ldc2_w 66, 3) := by decide +kernel
theorem dX12_hen_11 : decode cX12_hen 11 = .ok (.invokestatic 57, 3) := by decide +kernel
theorem dX12_hen_14 : decode cX12_hen 14 = .ok (.ifCond .eq 11, 3) := by decide +kernel
theorem dX12_hen_17 : decode cX12_hen 17 = .ok (.iload_n 3, 1) := by decide +kernel
theorem dX12_hen_18 : decode cX12_hen 18 = .ok (.iload_n 2, 1) := by decide +kernel
theorem dX12_hen_19 : decode cX12_hen 19 = .ok (.invokestatic 68, 3) := by decide +kernel
theorem dX12_hen_22 : decode cX12_hen 22 = .ok (.ifCond .ne 7, 3) := by decide +kernel
theorem dX12_hen_25 : decode cX12_hen 25 = .ok (.ldc2_w 72, 3) := by decide +kernel
theorem dX12_hen_28 : decode cX12_hen 28 = .ok (.lreturn, 1) := by decide +kernel
theorem dX12_hen_29 : decode cX12_hen 29 = .ok (.iload_n 3, 1) := by decide +kernel
theorem dX12_hen_30 : decode cX12_hen 30 = .ok (.bipush 12, 2) := by decide +kernel
theorem dX12_hen_32 : decode cX12_hen 32 = .ok (.if_icmp .ne 7, 3) := by decide +kernel
theorem dX12_hen_35 : decode cX12_hen 35 = .ok (.ldc2_w 74, 3) := by decide +kernel
theorem dX12_hen_38 : decode cX12_hen 38 = .ok (.lreturn, 1) := by decide +kernel
theorem dX12_hen_39 : decode cX12_hen 39 = .ok (.aload_n 0, 1) := by decide +kernel
theorem dX12_hen_40 : decode cX12_hen 40 = .ok (.invokevirtual 76, 3) := by decide +kernel
theorem dX12_hen_43 : decode cX12_hen 43 = .ok (.aload_n 0, 1) := by decide +kernel
theorem dX12_hen_44 : decode cX12_hen 44 = .ok (.getfield 7, 3) := by decide +kernel
theorem dX12_hen_47 : decode cX12_hen 47 = .ok (.iconst 0, 1) := by decide +kernel
theorem dX12_hen_48 : decode cX12_hen 48 = .ok (.dup2, 1) := by decide +kernel
theorem dX12_hen_49 : decode cX12_hen 49 = .ok (.iaload, 1) := by decide +kernel
theorem dX12_hen_50 : decode cX12_hen 50 = .ok (.iconst 1, 1) := by decide +kernel
theorem dX12_hen_51 : decode cX12_hen 51 = .ok (.iadd, 1) := by decide +kernel
theorem dX12_hen_52 : decode cX12_hen 52 = .ok (.iastore, 1) := by decide +kernel
theorem dX12_hen_53 : decode cX12_hen 53 = .ok (.aload_n 0, 1) := by decide +kernel
theorem dX12_hen_54 : decode cX12_hen 54 = .ok (.getfield 7, 3) := by decide +kernel
theorem dX12_hen_57 : decode cX12_hen 57 = .ok (.iconst 1, 1) := by decide +kernel
theorem dX12_hen_58 : decode cX12_hen 58 = .ok (.iload_n 3, 1) := by decide +kernel
theorem dX12_hen_59 : decode cX12_hen 59 = .ok (.iadd, 1) := by decide +kernel
theorem dX12_hen_60 : decode cX12_hen 60 = .ok (.iload_n 1, 1) := by decide +kernel
theorem dX12_hen_61 : decode cX12_hen 61 = .ok (.iastore, 1) := by decide +kernel
theorem dX12_hen_62 : decode cX12_hen 62 = .ok (.aload_n 0, 1) := by decide +kernel
theorem dX12_hen_63 : decode cX12_hen 63 = .ok (.getfield 7, 3) := by decide +kernel
theorem dX12_hen_66 : decode cX12_hen 66 = .ok (.bipush 13, 2) := by decide +kernel
theorem dX12_hen_68 : decode cX12_hen 68 = .ok (.iload_n 3, 1) := by decide +kernel
theorem dX12_hen_69 : decode cX12_hen 69 = .ok (.iadd, 1) := by decide +kernel
theorem dX12_hen_70 : decode cX12_hen 70 = .ok (.iload_n 2, 1) := by decide +kernel
theorem dX12_hen_71 : decode cX12_hen 71 = .ok (.iastore, 1) := by decide +kernel
theorem dX12_hen_72 : decode cX12_hen 72 = .ok (.aload_n 0, 1) := by decide +kernel
theorem dX12_hen_73 : decode cX12_hen 73 = .ok (.getfield 7, 3) := by decide +kernel
theorem dX12_hen_76 : decode cX12_hen 76 = .ok (.bipush 25, 2) := by decide +kernel
theorem dX12_hen_78 : decode cX12_hen 78 = .ok (.iload_n 3, 1) := by decide +kernel
theorem dX12_hen_79 : decode cX12_hen 79 = .ok (.iadd, 1) := by decide +kernel
theorem dX12_hen_80 : decode cX12_hen 80 = .ok (.iconst 0, 1) := by decide +kernel
theorem dX12_hen_81 : decode cX12_hen 81 = .ok (.iastore, 1) := by decide +kernel
theorem dX12_hen_82 : decode cX12_hen 82 = .ok (.aload_n 0, 1) := by decide +kernel
theorem dX12_hen_83 : decode cX12_hen 83 = .ok (.iload_n 3, 1) := by decide +kernel
theorem dX12_hen_84 : decode cX12_hen 84 = .ok (.iconst (-1), 1) := by decide +kernel
theorem dX12_hen_85 : decode cX12_hen 85 = .ok (.invokevirtual 79, 3) := by decide +kernel
theorem dX12_hen_88 : decode cX12_hen 88 = .ok (.iload_n 3, 1) := by decide +kernel
theorem dX12_hen_89 : decode cX12_hen 89 = .ok (.i2l, 1) := by decide +kernel
theorem dX12_hen_90 : decode cX12_hen 90 = .ok (.lreturn, 1) := by decide +kernel
set_option maxRecDepth 20000 in
set_option maxRecDepth 100000 in
theorem ggX12_ask_X12_isHen : GoodIn wsX12_ask wsX12_isHen := goodIn_r _ [7, 8, 9, 10, 6, 11, 2, 12, 13, 14, 30, 31, 32, 33, 34, 35, 36, 37, 38, 39, 40, 41, 42, 43, 44, 45, 46, 47] rfl (by decide +kernel)
set_option maxRecDepth 20000 in
theorem gX12_ask_X12_isHen : GoodIn wsX12_ask (wsV RX12 83 RX12 yX12_isHen wsX12_isHen) := goodIn_app (goodIn_of _ (by decide +kernel)) ggX12_ask_X12_isHen
set_option maxRecDepth 20000 in
set_option maxRecDepth 100000 in
theorem ggX12_ask_X12_mayAsk : GoodIn wsX12_ask wsX12_mayAsk := goodIn_r _ [17, 18, 19, 12, 13, 6, 14] rfl (by decide +kernel)
set_option maxRecDepth 20000 in
theorem gX12_ask_X12_mayAsk : GoodIn wsX12_ask (va_wsS RX12 68 yX12_mayAsk wsX12_mayAsk) := goodIn_app (goodIn_of _ (by decide +kernel)) ggX12_ask_X12_mayAsk
set_option maxRecDepth 20000 in
set_option maxRecDepth 100000 in
theorem ggX12_ask_X12_keep : GoodIn wsX12_ask wsX12_keep := goodIn_r _ [23, 24, 25, 2, 30, 31, 32, 33, 34, 35, 36, 37, 38, 39, 40, 41, 42, 43, 44, 45, 46, 47] rfl (by decide +kernel)
set_option maxRecDepth 20000 in
theorem gX12_ask_X12_keep : GoodIn wsX12_ask (wsV RX12 76 RX12 yX12_keep wsX12_keep) := goodIn_app (goodIn_of _ (by decide +kernel)) ggX12_ask_X12_keep
set_option maxRecDepth 20000 in
set_option maxRecDepth 100000 in
theorem ggX12_ask_X12_asks : GoodIn wsX12_ask wsX12_asks := goodIn_r _ [29, 2, 30, 31, 32, 33, 34, 35, 36, 37, 38, 39, 40, 41, 42, 43, 44, 45, 46, 47] rfl (by decide +kernel)
set_option maxRecDepth 20000 in
theorem gX12_ask_X12_asks : GoodIn wsX12_ask (wsV RX12 87 RX12 yX12_asks wsX12_asks) := goodIn_app (goodIn_of _ (by decide +kernel)) ggX12_ask_X12_asks
theorem dX12_ask_0 : decode cX12_ask 0 = .ok (.aload_n 0, 1) := by decide +kernel
theorem dX12_ask_1 : decode cX12_ask 1 = .ok (.iload_n 1, 1) := by decide +kernel
theorem dX12_ask_2 : decode cX12_ask 2 = .ok (.invokevirtual 83, 3) := by decide +kernel
theorem dX12_ask_5 : decode cX12_ask 5 = .ok (.ifCond .eq 11, 3) := by decide +kernel
theorem dX12_ask_8 : decode cX12_ask 8 = .ok (.iload_n 1, 1) := by decide +kernel
theorem dX12_ask_9 : decode cX12_ask 9 = .ok (.iload_n 2, 1) := by decide +kernel
theorem dX12_ask_10 : decode cX12_ask 10 = .ok (.invokestatic 68, 3) := by decide +kernel
theorem dX12_ask_13 : decode cX12_ask 13 = .ok (.ifCond .ne 7, 3) := by decide +kernel
theorem dX12_ask_16 : decode cX12_ask 16 = .ok (.ldc2_w 72, 3) := by decide +kernel
theorem dX12_ask_19 : decode cX12_ask 19 = .ok (.lreturn, 1) := by decide +kernel
theorem dX12_ask_20 : decode cX12_ask 20 = .ok (.aload_n 0, 1) := by decide +kernel
theorem dX12_ask_21 : decode cX12_ask 21 = .ok (.invokevirtual 76, 3) := by decide +kernel
theorem dX12_ask_24 : decode cX12_ask 24 = .ok (.aload_n 0, 1) := by decide +kernel
theorem dX12_ask_25 : decode cX12_ask 25 = .ok (.iload_n 1, 1) := by decide +kernel
theorem dX12_ask_26 : decode cX12_ask 26 = .ok (.invokevirtual 87, 3) := by decide +kernel
theorem dX12_ask_29 : decode cX12_ask 29 = .ok (.i2l, 1) := by decide +kernel
theorem dX12_ask_30 : decode cX12_ask 30 = .ok (.lstore_n 3, 1) := by decide +kernel
theorem dX12_ask_31 : decode cX12_ask 31 = .ok (.aload_n 0, 1) := by decide +kernel
theorem dX12_ask_32 : decode cX12_ask 32 = .ok (.getfield 7, 3) := by decide +kernel
theorem dX12_ask_35 : decode cX12_ask 35 = .ok (.bipush 13, 2) := by decide +kernel
theorem dX12_ask_37 : decode cX12_ask 37 = .ok (.iload_n 1, 1) := by decide +kernel
theorem dX12_ask_38 : decode cX12_ask 38 = .ok (.iadd, 1) := by decide +kernel
theorem dX12_ask_39 : decode cX12_ask 39 = .ok (.iload_n 2, 1) := by decide +kernel
theorem dX12_ask_40 : decode cX12_ask 40 = .ok (.iastore, 1) := by decide +kernel
theorem dX12_ask_41 : decode cX12_ask 41 = .ok (.lload_n 3, 1) := by decide +kernel
theorem dX12_ask_42 : decode cX12_ask 42 = .ok (.lreturn, 1) := by decide +kernel
set_option maxRecDepth 20000 in
set_option maxRecDepth 100000 in
theorem ggX12_take_X12_isHen : GoodIn wsX12_take wsX12_isHen := goodIn_r _ [8, 9, 10, 11, 7, 12, 3, 13, 14, 15, 26, 27, 28, 29, 30, 31, 32, 33, 34, 35, 36, 37, 38, 39, 40, 41, 42, 43] rfl (by decide +kernel)
set_option maxRecDepth 20000 in
theorem gX12_take_X12_isHen : GoodIn wsX12_take (wsV RX12 83 RX12 yX12_isHen wsX12_isHen) := goodIn_app (goodIn_of _ (by decide +kernel)) ggX12_take_X12_isHen
set_option maxRecDepth 20000 in
set_option maxRecDepth 100000 in
theorem ggX12_take_X12_isIn : GoodIn wsX12_take wsX12_isIn := goodIn_r _ [15] rfl (by decide +kernel)
set_option maxRecDepth 20000 in
theorem gX12_take_X12_isIn : GoodIn wsX12_take (va_wsS RX12 57 yX12_isIn wsX12_isIn) := goodIn_app (goodIn_of _ (by decide +kernel)) ggX12_take_X12_isIn
set_option maxRecDepth 20000 in
set_option maxRecDepth 100000 in
theorem ggX12_take_X12_kind : GoodIn wsX12_take wsX12_kind := goodIn_r _ [19, 3, 26, 27, 28, 29, 30, 31, 32, 33, 34, 35, 36, 37, 38, 39, 40, 41, 42, 43] rfl (by decide +kernel)
set_option maxRecDepth 20000 in
theorem gX12_take_X12_kind : GoodIn wsX12_take (wsV RX12 91 RX12 yX12_kind wsX12_kind) := goodIn_app (goodIn_of _ (by decide +kernel)) ggX12_take_X12_kind
set_option maxRecDepth 20000 in
set_option maxRecDepth 100000 in
theorem ggX12_take_X12_keep : GoodIn wsX12_take wsX12_keep := goodIn_r _ [23, 24, 25, 3, 26, 27, 28, 29, 30, 31, 32, 33, 34, 35, 36, 37, 38, 39, 40, 41, 42, 43] rfl (by decide +kernel)
set_option maxRecDepth 20000 in
theorem gX12_take_X12_keep : GoodIn wsX12_take (wsV RX12 76 RX12 yX12_keep wsX12_keep) := goodIn_app (goodIn_of _ (by decide +kernel)) ggX12_take_X12_keep
theorem dX12_take_0 : decode cX12_take 0 = .ok (.aload_n 0, 1) := by decide +kernel
theorem dX12_take_1 : decode cX12_take 1 = .ok (.iload_n 1, 1) := by decide +kernel
theorem dX12_take_2 : decode cX12_take 2 = .ok (.invokevirtual 83, 3) := by decide +kernel
theorem dX12_take_5 : decode cX12_take 5 = .ok (.ifCond .eq 13, 3) := by decide +kernel
theorem dX12_take_8 : decode cX12_take 8 = .ok (.iload_n 2, 1) := by decide +kernel
theorem dX12_take_9 : decode cX12_take 9 = .ok (.i2l, 1) := by decide +kernel
theorem dX12_take_10 : decode cX12_take 10 = .ok (.lconst 0, 1) := by decide +kernel
theorem dX12_take_11 : decode cX12_take 11 = .ok (.lconst 1, 1) := by decide +kernel
theorem dX12_take_12 : decode cX12_take 12 = .ok (.invokestatic 57, 3) := by decide +kernel
theorem dX12_take_15 : decode cX12_take 15 = .ok (.ifCond .ne 7, 3) := by decide +kernel
theorem dX12_take_18 : decode cX12_take 18 = .ok (.ldc2_w 72, 3) := by decide +kernel
theorem dX12_take_21 : decode cX12_take 21 = .ok (.lreturn, 1) := by decide +kernel
theorem dX12_take_22 : decode cX12_take 22 = .ok (.aload_n 0, 1) := by decide +kernel
theorem dX12_take_23 : decode cX12_take 23 = .ok (.iload_n 1, 1) := by decide +kernel
theorem dX12_take_24 : decode cX12_take 24 = .ok (.invokevirtual 91, 3) := by decide +kernel
theorem dX12_take_27 : decode cX12_take 27 = .ok (.iconst 4, 1) := by decide +kernel
theorem dX12_take_28 : decode cX12_take 28 = .ok (.if_icmp .eq 7, 3) := by decide +kernel
theorem dX12_take_31 : decode cX12_take 31 = .ok (.ldc2_w 61, 3) := by decide +kernel
theorem dX12_take_34 : decode cX12_take 34 = .ok (.lreturn, 1) := by decide +kernel
theorem dX12_take_35 : decode cX12_take 35 = .ok (.aload_n 0, 1) := by decide +kernel
theorem dX12_take_36 : decode cX12_take 36 = .ok (.invokevirtual 76, 3) := by decide +kernel
theorem dX12_take_39 : decode cX12_take 39 = .ok (.aload_n 0, 1) := by decide +kernel
theorem dX12_take_40 : decode cX12_take 40 = .ok (.getfield 7, 3) := by decide +kernel
theorem dX12_take_43 : decode cX12_take 43 = .ok (.bipush 25, 2) := by decide +kernel
theorem dX12_take_45 : decode cX12_take 45 = .ok (.iload_n 1, 1) := by decide +kernel
theorem dX12_take_46 : decode cX12_take 46 = .ok (.iadd, 1) := by decide +kernel
theorem dX12_take_47 : decode cX12_take 47 = .ok (.iaload, 1) := by decide +kernel
theorem dX12_take_48 : decode cX12_take 48 = .ok (.i2l, 1) := by decide +kernel
theorem dX12_take_49 : decode cX12_take 49 = .ok (.lstore_n 3, 1) := by decide +kernel
theorem dX12_take_50 : decode cX12_take 50 = .ok (.aload_n 0, 1) := by decide +kernel
theorem dX12_take_51 : decode cX12_take 51 = .ok (.getfield 7, 3) := by decide +kernel
theorem dX12_take_54 : decode cX12_take 54 = .ok (.bipush 25, 2) := by decide +kernel
theorem dX12_take_56 : decode cX12_take 56 = .ok (.iload_n 1, 1) := by decide +kernel
theorem dX12_take_57 : decode cX12_take 57 = .ok (.iadd, 1) := by decide +kernel
theorem dX12_take_58 : decode cX12_take 58 = .ok (.iload_n 2, 1) := by decide +kernel
theorem dX12_take_59 : decode cX12_take 59 = .ok (.iastore, 1) := by decide +kernel
theorem dX12_take_60 : decode cX12_take 60 = .ok (.lload_n 3, 1) := by decide +kernel
theorem dX12_take_61 : decode cX12_take 61 = .ok (.lreturn, 1) := by decide +kernel
set_option maxRecDepth 20000 in
set_option maxRecDepth 100000 in
theorem ggX12_pen_X12_isHen : GoodIn wsX12_pen wsX12_isHen := goodIn_r _ [7, 8, 9, 10, 6, 11, 12, 13, 14, 15, 26, 27, 28, 29, 30, 31, 32, 33, 34, 35, 36, 37, 38, 39, 40, 41, 42, 43] rfl (by decide +kernel)
set_option maxRecDepth 20000 in
theorem gX12_pen_X12_isHen : GoodIn wsX12_pen (wsV RX12 83 RX12 yX12_isHen wsX12_isHen) := goodIn_app (goodIn_of _ (by decide +kernel)) ggX12_pen_X12_isHen
set_option maxRecDepth 20000 in
set_option maxRecDepth 100000 in
theorem ggX12_pen_X12_isIn : GoodIn wsX12_pen wsX12_isIn := goodIn_r _ [15] rfl (by decide +kernel)
set_option maxRecDepth 20000 in
theorem gX12_pen_X12_isIn : GoodIn wsX12_pen (va_wsS RX12 57 yX12_isIn wsX12_isIn) := goodIn_app (goodIn_of _ (by decide +kernel)) ggX12_pen_X12_isIn
set_option maxRecDepth 20000 in
set_option maxRecDepth 100000 in
theorem ggX12_pen_X12_keep : GoodIn wsX12_pen wsX12_keep := goodIn_r _ [19, 20, 21, 12, 26, 27, 28, 29, 30, 31, 32, 33, 34, 35, 36, 37, 38, 39, 40, 41, 42, 43] rfl (by decide +kernel)
set_option maxRecDepth 20000 in
theorem gX12_pen_X12_keep : GoodIn wsX12_pen (wsV RX12 76 RX12 yX12_keep wsX12_keep) := goodIn_app (goodIn_of _ (by decide +kernel)) ggX12_pen_X12_keep
set_option maxRecDepth 20000 in
set_option maxRecDepth 100000 in
theorem ggX12_pen_X12_empty : GoodIn wsX12_pen wsX12_empty := goodIn_r _ [25, 12, 26, 27, 28, 29, 30, 31, 32, 33, 34, 35, 36, 37, 38, 39, 40, 41, 42, 43] rfl (by decide +kernel)
set_option maxRecDepth 20000 in
theorem gX12_pen_X12_empty : GoodIn wsX12_pen (wsV RX12 79 RX12 yX12_empty wsX12_empty) := goodIn_app (goodIn_of _ (by decide +kernel)) ggX12_pen_X12_empty
theorem dX12_pen_0 : decode cX12_pen 0 = .ok (.aload_n 0, 1) := by decide +kernel
theorem dX12_pen_1 : decode cX12_pen 1 = .ok (.iload_n 1, 1) := by decide +kernel
theorem dX12_pen_2 : decode cX12_pen 2 = .ok (.invokevirtual 83, 3) := by decide +kernel
theorem dX12_pen_5 : decode cX12_pen 5 = .ok (.ifCond .eq 15, 3) := by decide +kernel
theorem dX12_pen_8 : decode cX12_pen 8 = .ok (.iload_n 2, 1) := by decide +kernel
theorem dX12_pen_9 : decode cX12_pen 9 = .ok (.i2l, 1) := by decide +kernel
theorem dX12_pen_10 : decode cX12_pen 10 = .ok (.lconst 0, 1) := by decide +kernel
theorem dX12_pen_11 : decode cX12_pen 11 = .ok (.ldc2_w 94, 3) := by decide +kernel
theorem dX12_pen_14 : decode cX12_pen 14 = .ok (.invokestatic 57, 3) := by decide +kernel
theorem dX12_pen_17 : decode cX12_pen 17 = .ok (.ifCond .ne 7, 3) := by decide +kernel
theorem dX12_pen_20 : decode cX12_pen 20 = .ok (.ldc2_w 72, 3) := by decide +kernel
theorem dX12_pen_23 : decode cX12_pen 23 = .ok (.lreturn, 1) := by decide +kernel
theorem dX12_pen_24 : decode cX12_pen 24 = .ok (.aload_n 0, 1) := by decide +kernel
theorem dX12_pen_25 : decode cX12_pen 25 = .ok (.invokevirtual 76, 3) := by decide +kernel
theorem dX12_pen_28 : decode cX12_pen 28 = .ok (.aload_n 0, 1) := by decide +kernel
theorem dX12_pen_29 : decode cX12_pen 29 = .ok (.iload_n 1, 1) := by decide +kernel
theorem dX12_pen_30 : decode cX12_pen 30 = .ok (.iload_n 2, 1) := by decide +kernel
theorem dX12_pen_31 : decode cX12_pen 31 = .ok (.invokevirtual 79, 3) := by decide +kernel
theorem dX12_pen_34 : decode cX12_pen 34 = .ok (.lconst 0, 1) := by decide +kernel
theorem dX12_pen_35 : decode cX12_pen 35 = .ok (.lreturn, 1) := by decide +kernel
set_option maxRecDepth 20000 in
set_option maxRecDepth 100000 in
theorem ggX12_peck_X12_isHen : GoodIn wsX12_peck wsX12_isHen := goodIn_r _ [12, 13, 14, 15, 11, 16, 7, 17, 18, 19, 34, 35, 36, 37, 38, 39, 40, 41, 42, 43, 44, 45, 46, 47, 48, 49, 50, 51] rfl (by decide +kernel)
set_option maxRecDepth 20000 in
theorem gX12_peck_X12_isHen : GoodIn wsX12_peck (wsV RX12 83 RX12 yX12_isHen wsX12_isHen) := goodIn_app (goodIn_of _ (by decide +kernel)) ggX12_peck_X12_isHen
set_option maxRecDepth 20000 in
set_option maxRecDepth 100000 in
theorem ggX12_peck_X12_isIn : GoodIn wsX12_peck wsX12_isIn := goodIn_r _ [19] rfl (by decide +kernel)
set_option maxRecDepth 20000 in
theorem gX12_peck_X12_isIn : GoodIn wsX12_peck (va_wsS RX12 57 yX12_isIn wsX12_isIn) := goodIn_app (goodIn_of _ (by decide +kernel)) ggX12_peck_X12_isIn
set_option maxRecDepth 20000 in
set_option maxRecDepth 100000 in
theorem ggX12_peck_X12_width : GoodIn wsX12_peck wsX12_width := goodIn_r _ [23, 7, 34, 35, 36, 37, 38, 39, 40, 41, 42, 43, 44, 45, 46, 47, 48, 49, 50, 51] rfl (by decide +kernel)
set_option maxRecDepth 20000 in
theorem gX12_peck_X12_width : GoodIn wsX12_peck (wsV RX12 96 RX12 yX12_width wsX12_width) := goodIn_app (goodIn_of _ (by decide +kernel)) ggX12_peck_X12_width
set_option maxRecDepth 20000 in
set_option maxRecDepth 100000 in
theorem ggX12_peck_X12_keep : GoodIn wsX12_peck wsX12_keep := goodIn_r _ [27, 28, 29, 7, 34, 35, 36, 37, 38, 39, 40, 41, 42, 43, 44, 45, 46, 47, 48, 49, 50, 51] rfl (by decide +kernel)
set_option maxRecDepth 20000 in
theorem gX12_peck_X12_keep : GoodIn wsX12_peck (wsV RX12 76 RX12 yX12_keep wsX12_keep) := goodIn_app (goodIn_of _ (by decide +kernel)) ggX12_peck_X12_keep
set_option maxRecDepth 20000 in
set_option maxRecDepth 100000 in
theorem ggX12_peck_X12_peckOf : GoodIn wsX12_peck wsX12_peckOf := goodIn_r _ [33, 7, 34, 35, 36, 37, 38, 39, 40, 41, 42, 43, 44, 45, 46, 47, 48, 49, 50, 51] rfl (by decide +kernel)
set_option maxRecDepth 20000 in
theorem gX12_peck_X12_peckOf : GoodIn wsX12_peck (wsV RX12 105 RX12 yX12_peckOf wsX12_peckOf) := goodIn_app (goodIn_of _ (by decide +kernel)) ggX12_peck_X12_peckOf
theorem dX12_peck_0 : decode cX12_peck 0 = .ok (.aload_n 0, 1) := by decide +kernel
theorem dX12_peck_1 : decode cX12_peck 1 = .ok (.iload_n 1, 1) := by decide +kernel
theorem dX12_peck_2 : decode cX12_peck 2 = .ok (.invokevirtual 83, 3) := by decide +kernel
theorem dX12_peck_5 : decode cX12_peck 5 = .ok (.ifCond .eq 20, 3) := by decide +kernel
theorem dX12_peck_8 : decode cX12_peck 8 = .ok (.iload_n 2, 1) := by decide +kernel
theorem dX12_peck_9 : decode cX12_peck 9 = .ok (.i2l, 1) := by decide +kernel
theorem dX12_peck_10 : decode cX12_peck 10 = .ok (.lconst 0, 1) := by decide +kernel
theorem dX12_peck_11 : decode cX12_peck 11 = .ok (.ldc2_w 64, 3) := by decide +kernel
theorem dX12_peck_14 : decode cX12_peck 14 = .ok (.invokestatic 57, 3) := by decide +kernel
theorem dX12_peck_17 : decode cX12_peck 17 = .ok (.ifCond .eq 8, 3) := by decide +kernel
theorem dX12_peck_20 : decode cX12_peck 20 = .ok (.iload_n 2, 1) := by decide +kernel
theorem dX12_peck_21 : decode cX12_peck 21 = .ok (.iload_n 1, 1) := by decide +kernel
theorem dX12_peck_22 : decode cX12_peck 22 = .ok (.if_icmp .ne 7, 3) := by decide +kernel
theorem dX12_peck_25 : decode cX12_peck 25 = .ok (.ldc2_w 72, 3) := by decide +kernel
theorem dX12_peck_28 : decode cX12_peck 28 = .ok (.lreturn, 1) := by decide +kernel
theorem dX12_peck_29 : decode cX12_peck 29 = .ok (.aload_n 0, 1) := by decide +kernel
theorem dX12_peck_30 : decode cX12_peck 30 = .ok (.iload_n 1, 1) := by decide +kernel
theorem dX12_peck_31 : decode cX12_peck 31 = .ok (.invokevirtual 96, 3) := by decide +kernel
theorem dX12_peck_34 : decode cX12_peck 34 = .ok (.ifCond .ne 9, 3) := by decide +kernel
theorem dX12_peck_37 : decode cX12_peck 37 = .ok (.ldc2_w 99, 3) := by decide +kernel
theorem dX12_peck_40 : decode cX12_peck 40 = .ok (.goto 21, 3) := by decide +kernel
theorem dX12_peck_43 : decode cX12_peck 43 = .ok (.aload_n 0, 1) := by decide +kernel
theorem dX12_peck_44 : decode cX12_peck 44 = .ok (.iload_n 1, 1) := by decide +kernel
theorem dX12_peck_45 : decode cX12_peck 45 = .ok (.invokevirtual 96, 3) := by decide +kernel
theorem dX12_peck_48 : decode cX12_peck 48 = .ok (.iconst 1, 1) := by decide +kernel
theorem dX12_peck_49 : decode cX12_peck 49 = .ok (.if_icmp .ne 9, 3) := by decide +kernel
theorem dX12_peck_52 : decode cX12_peck 52 = .ok (.ldc2_w 101, 3) := by decide +kernel
theorem dX12_peck_55 : decode cX12_peck 55 = .ok (.goto 6, 3) := by decide +kernel
theorem dX12_peck_58 : decode cX12_peck 58 = .ok (.ldc2_w 103, 3) := by decide +kernel
theorem dX12_peck_61 : decode cX12_peck 61 = .ok (.lstore 5, 2) := by decide +kernel
theorem dX12_peck_63 : decode cX12_peck 63 = .ok (.lload_n 3, 1) := by decide +kernel
theorem dX12_peck_64 : decode cX12_peck 64 = .ok (.lconst 0, 1) := by decide +kernel
theorem dX12_peck_65 : decode cX12_peck 65 = .ok (.lload 5, 2) := by decide +kernel
theorem dX12_peck_67 : decode cX12_peck 67 = .ok (.invokestatic 57, 3) := by decide +kernel
theorem dX12_peck_70 : decode cX12_peck 70 = .ok (.ifCond .ne 7, 3) := by decide +kernel
theorem dX12_peck_73 : decode cX12_peck 73 = .ok (.ldc2_w 72, 3) := by decide +kernel
theorem dX12_peck_76 : decode cX12_peck 76 = .ok (.lreturn, 1) := by decide +kernel
theorem dX12_peck_77 : decode cX12_peck 77 = .ok (.aload_n 0, 1) := by decide +kernel
theorem dX12_peck_78 : decode cX12_peck 78 = .ok (.iload_n 1, 1) := by decide +kernel
theorem dX12_peck_79 : decode cX12_peck 79 = .ok (.invokevirtual 96, 3) := by decide +kernel
theorem dX12_peck_82 : decode cX12_peck 82 = .ok (.ifCond .ge 7, 3) := by decide +kernel
theorem dX12_peck_85 : decode cX12_peck 85 = .ok (.ldc2_w 61, 3) := by decide +kernel
theorem dX12_peck_88 : decode cX12_peck 88 = .ok (.lreturn, 1) := by decide +kernel
theorem dX12_peck_89 : decode cX12_peck 89 = .ok (.aload_n 0, 1) := by decide +kernel
theorem dX12_peck_90 : decode cX12_peck 90 = .ok (.invokevirtual 76, 3) := by decide +kernel
theorem dX12_peck_93 : decode cX12_peck 93 = .ok (.aload_n 0, 1) := by decide +kernel
theorem dX12_peck_94 : decode cX12_peck 94 = .ok (.iload_n 1, 1) := by decide +kernel
theorem dX12_peck_95 : decode cX12_peck 95 = .ok (.iload_n 2, 1) := by decide +kernel
theorem dX12_peck_96 : decode cX12_peck 96 = .ok (.invokevirtual 105, 3) := by decide +kernel
theorem dX12_peck_99 : decode cX12_peck 99 = .ok (.i2l, 1) := by decide +kernel
theorem dX12_peck_100 : decode cX12_peck 100 = .ok (.lstore 7, 2) := by decide +kernel
theorem dX12_peck_102 : decode cX12_peck 102 = .ok (.aload_n 0, 1) := by decide +kernel
theorem dX12_peck_103 : decode cX12_peck 103 = .ok (.getfield 7, 3) := by decide +kernel
theorem dX12_peck_106 : decode cX12_peck 106 = .ok (.bipush 49, 2) := by decide +kernel
theorem dX12_peck_108 : decode cX12_peck 108 = .ok (.bipush 12, 2) := by decide +kernel
theorem dX12_peck_110 : decode cX12_peck 110 = .ok (.iload_n 1, 1) := by decide +kernel
theorem dX12_peck_111 : decode cX12_peck 111 = .ok (.imul, 1) := by decide +kernel
theorem dX12_peck_112 : decode cX12_peck 112 = .ok (.iadd, 1) := by decide +kernel
theorem dX12_peck_113 : decode cX12_peck 113 = .ok (.iload_n 2, 1) := by decide +kernel
theorem dX12_peck_114 : decode cX12_peck 114 = .ok (.iadd, 1) := by decide +kernel
theorem dX12_peck_115 : decode cX12_peck 115 = .ok (.lload_n 3, 1) := by decide +kernel
theorem dX12_peck_116 : decode cX12_peck 116 = .ok (.l2i, 1) := by decide +kernel
theorem dX12_peck_117 : decode cX12_peck 117 = .ok (.iastore, 1) := by decide +kernel
theorem dX12_peck_118 : decode cX12_peck 118 = .ok (.lload 7, 2) := by decide +kernel
theorem dX12_peck_120 : decode cX12_peck 120 = .ok (.lreturn, 1) := by decide +kernel
set_option maxRecDepth 20000 in
set_option maxRecDepth 100000 in
theorem ggX12_leave_X12_isHen : GoodIn wsX12_leave wsX12_isHen := goodIn_r _ [7, 8, 9, 10, 6, 11, 12, 13, 14, 15, 30, 31, 32, 33, 34, 35, 36, 37, 38, 39, 40, 41, 42, 43, 44, 45, 46, 47] rfl (by decide +kernel)
set_option maxRecDepth 20000 in
theorem gX12_leave_X12_isHen : GoodIn wsX12_leave (wsV RX12 83 RX12 yX12_isHen wsX12_isHen) := goodIn_app (goodIn_of _ (by decide +kernel)) ggX12_leave_X12_isHen
set_option maxRecDepth 20000 in
set_option maxRecDepth 100000 in
theorem ggX12_leave_X12_width : GoodIn wsX12_leave wsX12_width := goodIn_r _ [19, 12, 30, 31, 32, 33, 34, 35, 36, 37, 38, 39, 40, 41, 42, 43, 44, 45, 46, 47] rfl (by decide +kernel)
set_option maxRecDepth 20000 in
theorem gX12_leave_X12_width : GoodIn wsX12_leave (wsV RX12 96 RX12 yX12_width wsX12_width) := goodIn_app (goodIn_of _ (by decide +kernel)) ggX12_leave_X12_width
set_option maxRecDepth 20000 in
set_option maxRecDepth 100000 in
theorem ggX12_leave_X12_keep : GoodIn wsX12_leave wsX12_keep := goodIn_r _ [23, 24, 25, 12, 30, 31, 32, 33, 34, 35, 36, 37, 38, 39, 40, 41, 42, 43, 44, 45, 46, 47] rfl (by decide +kernel)
set_option maxRecDepth 20000 in
theorem gX12_leave_X12_keep : GoodIn wsX12_leave (wsV RX12 76 RX12 yX12_keep wsX12_keep) := goodIn_app (goodIn_of _ (by decide +kernel)) ggX12_leave_X12_keep
set_option maxRecDepth 20000 in
set_option maxRecDepth 100000 in
theorem ggX12_leave_X12_empty : GoodIn wsX12_leave wsX12_empty := goodIn_r _ [29, 12, 30, 31, 32, 33, 34, 35, 36, 37, 38, 39, 40, 41, 42, 43, 44, 45, 46, 47] rfl (by decide +kernel)
set_option maxRecDepth 20000 in
theorem gX12_leave_X12_empty : GoodIn wsX12_leave (wsV RX12 79 RX12 yX12_empty wsX12_empty) := goodIn_app (goodIn_of _ (by decide +kernel)) ggX12_leave_X12_empty
theorem dX12_leave_0 : decode cX12_leave 0 = .ok (.aload_n 0, 1) := by decide +kernel
theorem dX12_leave_1 : decode cX12_leave 1 = .ok (.iload_n 1, 1) := by decide +kernel
theorem dX12_leave_2 : decode cX12_leave 2 = .ok (.invokevirtual 83, 3) := by decide +kernel
theorem dX12_leave_5 : decode cX12_leave 5 = .ok (.ifCond .ne 7, 3) := by decide +kernel
theorem dX12_leave_8 : decode cX12_leave 8 = .ok (.ldc2_w 72, 3) := by decide +kernel
theorem dX12_leave_11 : decode cX12_leave 11 = .ok (.lreturn, 1) := by decide +kernel
theorem dX12_leave_12 : decode cX12_leave 12 = .ok (.aload_n 0, 1) := by decide +kernel
theorem dX12_leave_13 : decode cX12_leave 13 = .ok (.iload_n 1, 1) := by decide +kernel
theorem dX12_leave_14 : decode cX12_leave 14 = .ok (.invokevirtual 96, 3) := by decide +kernel
theorem dX12_leave_17 : decode cX12_leave 17 = .ok (.ifCond .ge 7, 3) := by decide +kernel
theorem dX12_leave_20 : decode cX12_leave 20 = .ok (.ldc2_w 61, 3) := by decide +kernel
theorem dX12_leave_23 : decode cX12_leave 23 = .ok (.lreturn, 1) := by decide +kernel
theorem dX12_leave_24 : decode cX12_leave 24 = .ok (.aload_n 0, 1) := by decide +kernel
theorem dX12_leave_25 : decode cX12_leave 25 = .ok (.invokevirtual 76, 3) := by decide +kernel
theorem dX12_leave_28 : decode cX12_leave 28 = .ok (.aload_n 0, 1) := by decide +kernel
theorem dX12_leave_29 : decode cX12_leave 29 = .ok (.iload_n 1, 1) := by decide +kernel
theorem dX12_leave_30 : decode cX12_leave 30 = .ok (.iconst (-1), 1) := by decide +kernel
theorem dX12_leave_31 : decode cX12_leave 31 = .ok (.invokevirtual 79, 3) := by decide +kernel
theorem dX12_leave_34 : decode cX12_leave 34 = .ok (.lconst 0, 1) := by decide +kernel
theorem dX12_leave_35 : decode cX12_leave 35 = .ok (.lreturn, 1) := by decide +kernel
set_option maxRecDepth 20000 in
set_option maxRecDepth 100000 in
theorem ggX12_counts_X12_isHen : GoodIn wsX12_counts wsX12_isHen := goodIn_r _ [6, 7, 8, 9, 5, 10, 1, 11, 12, 13, 18, 19, 20, 21, 22, 23, 24, 25, 26, 27, 28, 29, 30, 31, 32, 33, 34, 35] rfl (by decide +kernel)
set_option maxRecDepth 20000 in
theorem gX12_counts_X12_isHen : GoodIn wsX12_counts (wsV RX12 83 RX12 yX12_isHen wsX12_isHen) := goodIn_app (goodIn_of _ (by decide +kernel)) ggX12_counts_X12_isHen
set_option maxRecDepth 20000 in
set_option maxRecDepth 100000 in
theorem ggX12_counts_X12_kind : GoodIn wsX12_counts wsX12_kind := goodIn_r _ [17, 1, 18, 19, 20, 21, 22, 23, 24, 25, 26, 27, 28, 29, 30, 31, 32, 33, 34, 35] rfl (by decide +kernel)
set_option maxRecDepth 20000 in
theorem gX12_counts_X12_kind : GoodIn wsX12_counts (wsV RX12 91 RX12 yX12_kind wsX12_kind) := goodIn_app (goodIn_of _ (by decide +kernel)) ggX12_counts_X12_kind
theorem dX12_counts_0 : decode cX12_counts 0 = .ok (.aload_n 0, 1) := by decide +kernel
theorem dX12_counts_1 : decode cX12_counts 1 = .ok (.iload_n 1, 1) := by decide +kernel
theorem dX12_counts_2 : decode cX12_counts 2 = .ok (.invokevirtual 83, 3) := by decide +kernel
theorem dX12_counts_5 : decode cX12_counts 5 = .ok (.ifCond .eq 29, 3) := by decide +kernel
theorem dX12_counts_8 : decode cX12_counts 8 = .ok (.aload_n 0, 1) := by decide +kernel
theorem dX12_counts_9 : decode cX12_counts 9 = .ok (.iload_n 1, 1) := by decide +kernel
theorem dX12_counts_10 : decode cX12_counts 10 = .ok (.invokevirtual 91, 3) := by decide +kernel
theorem dX12_counts_13 : decode cX12_counts 13 = .ok (.iconst 4, 1) := by decide +kernel
theorem dX12_counts_14 : decode cX12_counts 14 = .ok (.if_icmp .ne 16, 3) := by decide +kernel
theorem dX12_counts_17 : decode cX12_counts 17 = .ok (.aload_n 0, 1) := by decide +kernel
theorem dX12_counts_18 : decode cX12_counts 18 = .ok (.getfield 7, 3) := by decide +kernel
theorem dX12_counts_21 : decode cX12_counts 21 = .ok (.bipush 25, 2) := by decide +kernel
theorem dX12_counts_23 : decode cX12_counts 23 = .ok (.iload_n 1, 1) := by decide +kernel
theorem dX12_counts_24 : decode cX12_counts 24 = .ok (.iadd, 1) := by decide +kernel
theorem dX12_counts_25 : decode cX12_counts 25 = .ok (.iaload, 1) := by decide +kernel
theorem dX12_counts_26 : decode cX12_counts 26 = .ok (.iconst 1, 1) := by decide +kernel
theorem dX12_counts_27 : decode cX12_counts 27 = .ok (.if_icmp .ne 7, 3) := by decide +kernel
theorem dX12_counts_30 : decode cX12_counts 30 = .ok (.iconst 1, 1) := by decide +kernel
theorem dX12_counts_31 : decode cX12_counts 31 = .ok (.goto 4, 3) := by decide +kernel
theorem dX12_counts_34 : decode cX12_counts 34 = .ok (.iconst 0, 1) := by decide +kernel
theorem dX12_counts_35 : decode cX12_counts 35 = .ok (.ireturn, 1) := by decide +kernel
set_option maxRecDepth 20000 in
set_option maxRecDepth 100000 in
theorem ggX12_about_X12_isHen : GoodIn wsX12_about wsX12_isHen := goodIn_r _ [8, 9, 10, 11, 7, 12, 13, 14, 15, 16, 33, 34, 35, 36, 37, 38, 39, 40, 41, 42, 43, 44, 45, 46, 47, 48, 49, 50] rfl (by decide +kernel)
set_option maxRecDepth 20000 in
theorem gX12_about_X12_isHen : GoodIn wsX12_about (wsV RX12 83 RX12 yX12_isHen wsX12_isHen) := goodIn_app (goodIn_of _ (by decide +kernel)) ggX12_about_X12_isHen
set_option maxRecDepth 20000 in
set_option maxRecDepth 100000 in
theorem ggX12_about_X12_isIn : GoodIn wsX12_about wsX12_isIn := goodIn_r _ [16] rfl (by decide +kernel)
set_option maxRecDepth 20000 in
theorem gX12_about_X12_isIn : GoodIn wsX12_about (va_wsS RX12 57 yX12_isIn wsX12_isIn) := goodIn_app (goodIn_of _ (by decide +kernel)) ggX12_about_X12_isIn
set_option maxRecDepth 20000 in
set_option maxRecDepth 100000 in
theorem ggX12_about_X12_kind : GoodIn wsX12_about wsX12_kind := goodIn_r _ [20, 13, 33, 34, 35, 36, 37, 38, 39, 40, 41, 42, 43, 44, 45, 46, 47, 48, 49, 50] rfl (by decide +kernel)
set_option maxRecDepth 20000 in
theorem gX12_about_X12_kind : GoodIn wsX12_about (wsV RX12 91 RX12 yX12_kind wsX12_kind) := goodIn_app (goodIn_of _ (by decide +kernel)) ggX12_about_X12_kind
set_option maxRecDepth 20000 in
set_option maxRecDepth 100000 in
theorem ggX12_about_X12_asks : GoodIn wsX12_about wsX12_asks := goodIn_r _ [24, 13, 33, 34, 35, 36, 37, 38, 39, 40, 41, 42, 43, 44, 45, 46, 47, 48, 49, 50] rfl (by decide +kernel)
set_option maxRecDepth 20000 in
theorem gX12_about_X12_asks : GoodIn wsX12_about (wsV RX12 87 RX12 yX12_asks wsX12_asks) := goodIn_app (goodIn_of _ (by decide +kernel)) ggX12_about_X12_asks
set_option maxRecDepth 20000 in
set_option maxRecDepth 100000 in
theorem ggX12_about_X12_counts : GoodIn wsX12_about wsX12_counts := goodIn_r _ [28, 13, 4, 5, 6, 7, 8, 9, 10, 11, 12, 14, 15, 16, 17, 18, 19, 20, 33, 34, 35, 36, 37, 38, 39, 40, 41, 42, 43, 44, 45, 46, 47, 48, 49, 50] rfl (by decide +kernel)
set_option maxRecDepth 20000 in
theorem gX12_about_X12_counts : GoodIn wsX12_about (wsV RX12 109 RX12 yX12_counts wsX12_counts) := goodIn_app (goodIn_of _ (by decide +kernel)) ggX12_about_X12_counts
set_option maxRecDepth 20000 in
set_option maxRecDepth 100000 in
theorem ggX12_about_X12_width : GoodIn wsX12_about wsX12_width := goodIn_r _ [32, 13, 33, 34, 35, 36, 37, 38, 39, 40, 41, 42, 43, 44, 45, 46, 47, 48, 49, 50] rfl (by decide +kernel)
set_option maxRecDepth 20000 in
theorem gX12_about_X12_width : GoodIn wsX12_about (wsV RX12 96 RX12 yX12_width wsX12_width) := goodIn_app (goodIn_of _ (by decide +kernel)) ggX12_about_X12_width
theorem dX12_about_0 : decode cX12_about 0 = .ok (.aload_n 0, 1) := by decide +kernel
theorem dX12_about_1 : decode cX12_about 1 = .ok (.iload_n 1, 1) := by decide +kernel
theorem dX12_about_2 : decode cX12_about 2 = .ok (.invokevirtual 83, 3) := by decide +kernel
theorem dX12_about_5 : decode cX12_about 5 = .ok (.ifCond .eq 15, 3) := by decide +kernel
theorem dX12_about_8 : decode cX12_about 8 = .ok (.iload_n 2, 1) := by decide +kernel
theorem dX12_about_9 : decode cX12_about 9 = .ok (.i2l, 1) := by decide +kernel
theorem dX12_about_10 : decode cX12_about 10 = .ok (.lconst 0, 1) := by decide +kernel
theorem dX12_about_11 : decode cX12_about 11 = .ok (.ldc2_w 94, 3) := by decide +kernel
theorem dX12_about_14 : decode cX12_about 14 = .ok (.invokestatic 57, 3) := by decide +kernel
theorem dX12_about_17 : decode cX12_about 17 = .ok (.ifCond .ne 7, 3) := by decide +kernel
theorem dX12_about_20 : decode cX12_about 20 = .ok (.ldc2_w 72, 3) := by decide +kernel
theorem dX12_about_23 : decode cX12_about 23 = .ok (.lreturn, 1) := by decide +kernel
theorem dX12_about_24 : decode cX12_about 24 = .ok (.iload_n 2, 1) := by decide +kernel
theorem dX12_about_25 : decode cX12_about 25 = .ok (.ifCond .ne 12, 3) := by decide +kernel
theorem dX12_about_28 : decode cX12_about 28 = .ok (.aload_n 0, 1) := by decide +kernel
theorem dX12_about_29 : decode cX12_about 29 = .ok (.iload_n 1, 1) := by decide +kernel
theorem dX12_about_30 : decode cX12_about 30 = .ok (.invokevirtual 91, 3) := by decide +kernel
theorem dX12_about_33 : decode cX12_about 33 = .ok (.i2l, 1) := by decide +kernel
theorem dX12_about_34 : decode cX12_about 34 = .ok (.goto 58, 3) := by decide +kernel
theorem dX12_about_37 : decode cX12_about 37 = .ok (.iload_n 2, 1) := by decide +kernel
theorem dX12_about_38 : decode cX12_about 38 = .ok (.iconst 1, 1) := by decide +kernel
theorem dX12_about_39 : decode cX12_about 39 = .ok (.if_icmp .ne 12, 3) := by decide +kernel
theorem dX12_about_42 : decode cX12_about 42 = .ok (.aload_n 0, 1) := by decide +kernel
theorem dX12_about_43 : decode cX12_about 43 = .ok (.iload_n 1, 1) := by decide +kernel
theorem dX12_about_44 : decode cX12_about 44 = .ok (.invokevirtual 87, 3) := by decide +kernel
theorem dX12_about_47 : decode cX12_about 47 = .ok (.i2l, 1) := by decide +kernel
theorem dX12_about_48 : decode cX12_about 48 = .ok (.goto 44, 3) := by decide +kernel
theorem dX12_about_51 : decode cX12_about 51 = .ok (.iload_n 2, 1) := by decide +kernel
theorem dX12_about_52 : decode cX12_about 52 = .ok (.iconst 2, 1) := by decide +kernel
theorem dX12_about_53 : decode cX12_about 53 = .ok (.if_icmp .ne 19, 3) := by decide +kernel
theorem dX12_about_56 : decode cX12_about 56 = .ok (.aload_n 0, 1) := by decide +kernel
theorem dX12_about_57 : decode cX12_about 57 = .ok (.iload_n 1, 1) := by decide +kernel
theorem dX12_about_58 : decode cX12_about 58 = .ok (.invokevirtual 109, 3) := by decide +kernel
theorem dX12_about_61 : decode cX12_about 61 = .ok (.ifCond .eq 7, 3) := by decide +kernel
theorem dX12_about_64 : decode cX12_about 64 = .ok (.lconst 1, 1) := by decide +kernel
theorem dX12_about_65 : decode cX12_about 65 = .ok (.goto 27, 3) := by decide +kernel
theorem dX12_about_68 : decode cX12_about 68 = .ok (.lconst 0, 1) := by decide +kernel
theorem dX12_about_69 : decode cX12_about 69 = .ok (.goto 23, 3) := by decide +kernel
theorem dX12_about_72 : decode cX12_about 72 = .ok (.aload_n 0, 1) := by decide +kernel
theorem dX12_about_73 : decode cX12_about 73 = .ok (.iload_n 1, 1) := by decide +kernel
theorem dX12_about_74 : decode cX12_about 74 = .ok (.invokevirtual 96, 3) := by decide +kernel
theorem dX12_about_77 : decode cX12_about 77 = .ok (.ifCond .ge 9, 3) := by decide +kernel
theorem dX12_about_80 : decode cX12_about 80 = .ok (.ldc2_w 112, 3) := by decide +kernel
theorem dX12_about_83 : decode cX12_about 83 = .ok (.goto 9, 3) := by decide +kernel
theorem dX12_about_86 : decode cX12_about 86 = .ok (.aload_n 0, 1) := by decide +kernel
theorem dX12_about_87 : decode cX12_about 87 = .ok (.iload_n 1, 1) := by decide +kernel
theorem dX12_about_88 : decode cX12_about 88 = .ok (.invokevirtual 96, 3) := by decide +kernel
theorem dX12_about_91 : decode cX12_about 91 = .ok (.i2l, 1) := by decide +kernel
theorem dX12_about_92 : decode cX12_about 92 = .ok (.lreturn, 1) := by decide +kernel
set_option maxRecDepth 20000 in
set_option maxRecDepth 100000 in
theorem ggX12_isOf_X12_isHen : GoodIn wsX12_isOf wsX12_isHen := goodIn_r _ [7, 8, 9, 10, 6, 11, 12, 13, 14, 15, 20, 21, 22, 23, 24, 25, 26, 27, 28, 29, 30, 31, 32, 33, 34, 35, 36, 37] rfl (by decide +kernel)
set_option maxRecDepth 20000 in
theorem gX12_isOf_X12_isHen : GoodIn wsX12_isOf (wsV RX12 83 RX12 yX12_isHen wsX12_isHen) := goodIn_app (goodIn_of _ (by decide +kernel)) ggX12_isOf_X12_isHen
set_option maxRecDepth 20000 in
set_option maxRecDepth 100000 in
theorem ggX12_isOf_X12_isIn : GoodIn wsX12_isOf wsX12_isIn := goodIn_r _ [15] rfl (by decide +kernel)
set_option maxRecDepth 20000 in
theorem gX12_isOf_X12_isIn : GoodIn wsX12_isOf (va_wsS RX12 57 yX12_isIn wsX12_isIn) := goodIn_app (goodIn_of _ (by decide +kernel)) ggX12_isOf_X12_isIn
set_option maxRecDepth 20000 in
set_option maxRecDepth 100000 in
theorem ggX12_isOf_X12_kind : GoodIn wsX12_isOf wsX12_kind := goodIn_r _ [19, 12, 20, 21, 22, 23, 24, 25, 26, 27, 28, 29, 30, 31, 32, 33, 34, 35, 36, 37] rfl (by decide +kernel)
set_option maxRecDepth 20000 in
theorem gX12_isOf_X12_kind : GoodIn wsX12_isOf (wsV RX12 91 RX12 yX12_kind wsX12_kind) := goodIn_app (goodIn_of _ (by decide +kernel)) ggX12_isOf_X12_kind
theorem dX12_isOf_0 : decode cX12_isOf 0 = .ok (.aload_n 0, 1) := by decide +kernel
theorem dX12_isOf_1 : decode cX12_isOf 1 = .ok (.iload_n 1, 1) := by decide +kernel
theorem dX12_isOf_2 : decode cX12_isOf 2 = .ok (.invokevirtual 83, 3) := by decide +kernel
theorem dX12_isOf_5 : decode cX12_isOf 5 = .ok (.ifCond .eq 15, 3) := by decide +kernel
theorem dX12_isOf_8 : decode cX12_isOf 8 = .ok (.iload_n 2, 1) := by decide +kernel
theorem dX12_isOf_9 : decode cX12_isOf 9 = .ok (.i2l, 1) := by decide +kernel
theorem dX12_isOf_10 : decode cX12_isOf 10 = .ok (.lconst 0, 1) := by decide +kernel
theorem dX12_isOf_11 : decode cX12_isOf 11 = .ok (.ldc2_w 66, 3) := by decide +kernel
theorem dX12_isOf_14 : decode cX12_isOf 14 = .ok (.invokestatic 57, 3) := by decide +kernel
theorem dX12_isOf_17 : decode cX12_isOf 17 = .ok (.ifCond .ne 7, 3) := by decide +kernel
theorem dX12_isOf_20 : decode cX12_isOf 20 = .ok (.ldc2_w 72, 3) := by decide +kernel
theorem dX12_isOf_23 : decode cX12_isOf 23 = .ok (.lreturn, 1) := by decide +kernel
theorem dX12_isOf_24 : decode cX12_isOf 24 = .ok (.iload_n 2, 1) := by decide +kernel
theorem dX12_isOf_25 : decode cX12_isOf 25 = .ok (.ifCond .eq 26, 3) := by decide +kernel
theorem dX12_isOf_28 : decode cX12_isOf 28 = .ok (.aload_n 0, 1) := by decide +kernel
theorem dX12_isOf_29 : decode cX12_isOf 29 = .ok (.iload_n 1, 1) := by decide +kernel
theorem dX12_isOf_30 : decode cX12_isOf 30 = .ok (.invokevirtual 91, 3) := by decide +kernel
theorem dX12_isOf_33 : decode cX12_isOf 33 = .ok (.iload_n 2, 1) := by decide +kernel
theorem dX12_isOf_34 : decode cX12_isOf 34 = .ok (.if_icmp .eq 17, 3) := by decide +kernel
theorem dX12_isOf_37 : decode cX12_isOf 37 = .ok (.iload_n 2, 1) := by decide +kernel
theorem dX12_isOf_38 : decode cX12_isOf 38 = .ok (.iconst 1, 1) := by decide +kernel
theorem dX12_isOf_39 : decode cX12_isOf 39 = .ok (.if_icmp .ne 16, 3) := by decide +kernel
theorem dX12_isOf_42 : decode cX12_isOf 42 = .ok (.aload_n 0, 1) := by decide +kernel
theorem dX12_isOf_43 : decode cX12_isOf 43 = .ok (.iload_n 1, 1) := by decide +kernel
theorem dX12_isOf_44 : decode cX12_isOf 44 = .ok (.invokevirtual 91, 3) := by decide +kernel
theorem dX12_isOf_47 : decode cX12_isOf 47 = .ok (.iconst 3, 1) := by decide +kernel
theorem dX12_isOf_48 : decode cX12_isOf 48 = .ok (.if_icmp .ne 7, 3) := by decide +kernel
theorem dX12_isOf_51 : decode cX12_isOf 51 = .ok (.lconst 1, 1) := by decide +kernel
theorem dX12_isOf_52 : decode cX12_isOf 52 = .ok (.goto 4, 3) := by decide +kernel
theorem dX12_isOf_55 : decode cX12_isOf 55 = .ok (.lconst 0, 1) := by decide +kernel
theorem dX12_isOf_56 : decode cX12_isOf 56 = .ok (.lreturn, 1) := by decide +kernel
set_option maxRecDepth 20000 in
set_option maxRecDepth 100000 in
theorem ggX12_pecks_X12_isHen : GoodIn wsX12_pecks wsX12_isHen := goodIn_r _ [7, 8, 9, 10, 6, 11, 12, 13, 14, 15, 20, 21, 22, 23, 24, 25, 26, 27, 28, 29, 30, 31, 32, 33, 34, 35, 36, 37] rfl (by decide +kernel)
set_option maxRecDepth 20000 in
theorem gX12_pecks_X12_isHen : GoodIn wsX12_pecks (wsV RX12 83 RX12 yX12_isHen wsX12_isHen) := goodIn_app (goodIn_of _ (by decide +kernel)) ggX12_pecks_X12_isHen
set_option maxRecDepth 20000 in
set_option maxRecDepth 100000 in
theorem ggX12_pecks_X12_isIn : GoodIn wsX12_pecks wsX12_isIn := goodIn_r _ [15] rfl (by decide +kernel)
set_option maxRecDepth 20000 in
theorem gX12_pecks_X12_isIn : GoodIn wsX12_pecks (va_wsS RX12 57 yX12_isIn wsX12_isIn) := goodIn_app (goodIn_of _ (by decide +kernel)) ggX12_pecks_X12_isIn
set_option maxRecDepth 20000 in
set_option maxRecDepth 100000 in
theorem ggX12_pecks_X12_peckOf : GoodIn wsX12_pecks wsX12_peckOf := goodIn_r _ [19, 12, 20, 21, 22, 23, 24, 25, 26, 27, 28, 29, 30, 31, 32, 33, 34, 35, 36, 37] rfl (by decide +kernel)
set_option maxRecDepth 20000 in
theorem gX12_pecks_X12_peckOf : GoodIn wsX12_pecks (wsV RX12 105 RX12 yX12_peckOf wsX12_peckOf) := goodIn_app (goodIn_of _ (by decide +kernel)) ggX12_pecks_X12_peckOf
theorem dX12_pecks_0 : decode cX12_pecks 0 = .ok (.aload_n 0, 1) := by decide +kernel
theorem dX12_pecks_1 : decode cX12_pecks 1 = .ok (.iload_n 1, 1) := by decide +kernel
theorem dX12_pecks_2 : decode cX12_pecks 2 = .ok (.invokevirtual 83, 3) := by decide +kernel
theorem dX12_pecks_5 : decode cX12_pecks 5 = .ok (.ifCond .eq 20, 3) := by decide +kernel
theorem dX12_pecks_8 : decode cX12_pecks 8 = .ok (.iload_n 2, 1) := by decide +kernel
theorem dX12_pecks_9 : decode cX12_pecks 9 = .ok (.i2l, 1) := by decide +kernel
theorem dX12_pecks_10 : decode cX12_pecks 10 = .ok (.lconst 0, 1) := by decide +kernel
theorem dX12_pecks_11 : decode cX12_pecks 11 = .ok (.ldc2_w 64, 3) := by decide +kernel
theorem dX12_pecks_14 : decode cX12_pecks 14 = .ok (.invokestatic 57, 3) := by decide +kernel
theorem dX12_pecks_17 : decode cX12_pecks 17 = .ok (.ifCond .eq 8, 3) := by decide +kernel
theorem dX12_pecks_20 : decode cX12_pecks 20 = .ok (.iload_n 2, 1) := by decide +kernel
theorem dX12_pecks_21 : decode cX12_pecks 21 = .ok (.iload_n 1, 1) := by decide +kernel
theorem dX12_pecks_22 : decode cX12_pecks 22 = .ok (.if_icmp .ne 7, 3) := by decide +kernel
theorem dX12_pecks_25 : decode cX12_pecks 25 = .ok (.ldc2_w 72, 3) := by decide +kernel
theorem dX12_pecks_28 : decode cX12_pecks 28 = .ok (.lreturn, 1) := by decide +kernel
theorem dX12_pecks_29 : decode cX12_pecks 29 = .ok (.aload_n 0, 1) := by decide +kernel
theorem dX12_pecks_30 : decode cX12_pecks 30 = .ok (.iload_n 1, 1) := by decide +kernel
theorem dX12_pecks_31 : decode cX12_pecks 31 = .ok (.iload_n 2, 1) := by decide +kernel
theorem dX12_pecks_32 : decode cX12_pecks 32 = .ok (.invokevirtual 105, 3) := by decide +kernel
theorem dX12_pecks_35 : decode cX12_pecks 35 = .ok (.i2l, 1) := by decide +kernel
theorem dX12_pecks_36 : decode cX12_pecks 36 = .ok (.lreturn, 1) := by decide +kernel
set_option maxRecDepth 20000 in
set_option maxRecDepth 100000 in
theorem ggX12_counting_X12_hens : GoodIn wsX12_counting wsX12_hens := goodIn_r _ [5, 6, 22, 23, 24, 25, 26, 27, 28, 29, 30, 31, 32, 33, 34, 35, 36, 37, 38, 39] rfl (by decide +kernel)
set_option maxRecDepth 20000 in
theorem gX12_counting_X12_hens : GoodIn wsX12_counting (wsV RX12 53 RX12 yX12_hens wsX12_hens) := goodIn_app (goodIn_of _ (by decide +kernel)) ggX12_counting_X12_hens
set_option maxRecDepth 20000 in
set_option maxRecDepth 100000 in
theorem ggX12_counting_X12_counts : GoodIn wsX12_counting wsX12_counts := goodIn_r _ [10, 6, 11, 12, 13, 4, 14, 1, 2, 3, 5, 15, 16, 17, 18, 19, 20, 21, 22, 23, 24, 25, 26, 27, 28, 29, 30, 31, 32, 33, 34, 35, 36, 37, 38, 39] rfl (by decide +kernel)
set_option maxRecDepth 20000 in
theorem gX12_counting_X12_counts : GoodIn wsX12_counting (wsV RX12 109 RX12 yX12_counts wsX12_counts) := goodIn_app (goodIn_of _ (by decide +kernel)) ggX12_counting_X12_counts
theorem dX12_counting_0 : decode cX12_counting 0 = .ok (.iconst 0, 1) := by decide +kernel
theorem dX12_counting_1 : decode cX12_counting 1 = .ok (.istore_n 1, 1) := by decide +kernel
theorem dX12_counting_2 : decode cX12_counting 2 = .ok (.iconst 0, 1) := by decide +kernel
theorem dX12_counting_3 : decode cX12_counting 3 = .ok (.istore_n 2, 1) := by decide +kernel
theorem dX12_counting_4 : decode cX12_counting 4 = .ok (.iload_n 2, 1) := by decide +kernel
theorem dX12_counting_5 : decode cX12_counting 5 = .ok (.aload_n 0, 1) := by decide +kernel
theorem dX12_counting_6 : decode cX12_counting 6 = .ok (.invokevirtual 53, 3) := by decide +kernel
theorem dX12_counting_9 : decode cX12_counting 9 = .ok (.if_icmp .ge 27, 3) := by decide +kernel
theorem dX12_counting_12 : decode cX12_counting 12 = .ok (.iload_n 1, 1) := by decide +kernel
theorem dX12_counting_13 : decode cX12_counting 13 = .ok (.aload_n 0, 1) := by decide +kernel
theorem dX12_counting_14 : decode cX12_counting 14 = .ok (.iload_n 2, 1) := by decide +kernel
theorem dX12_counting_15 : decode cX12_counting 15 = .ok (.invokevirtual 109, 3) := by decide +kernel
theorem dX12_counting_18 : decode cX12_counting 18 = .ok (.ifCond .eq 9, 3) := by decide +kernel
theorem dX12_counting_21 : decode cX12_counting 21 = .ok (.iconst 1, 1) := by decide +kernel
theorem dX12_counting_22 : decode cX12_counting 22 = .ok (.iload_n 2, 1) := by decide +kernel
theorem dX12_counting_23 : decode cX12_counting 23 = .ok (.ishl, 1) := by decide +kernel
theorem dX12_counting_24 : decode cX12_counting 24 = .ok (.goto 4, 3) := by decide +kernel
theorem dX12_counting_27 : decode cX12_counting 27 = .ok (.iconst 0, 1) := by decide +kernel
theorem dX12_counting_28 : decode cX12_counting 28 = .ok (.ior, 1) := by decide +kernel
theorem dX12_counting_29 : decode cX12_counting 29 = .ok (.istore_n 1, 1) := by decide +kernel
theorem dX12_counting_30 : decode cX12_counting 30 = .ok (.iinc 2 1, 3) := by decide +kernel
theorem dX12_counting_33 : decode cX12_counting 33 = .ok (.goto (-29), 3) := by decide +kernel
theorem dX12_counting_36 : decode cX12_counting 36 = .ok (.iload_n 1, 1) := by decide +kernel
theorem dX12_counting_37 : decode cX12_counting 37 = .ok (.ireturn, 1) := by decide +kernel
set_option maxRecDepth 20000 in
set_option maxRecDepth 100000 in
theorem ggX12_askedBy_X12_kind : GoodIn wsX12_askedBy wsX12_kind := goodIn_r _ [6, 7, 27, 28, 29, 30, 31, 32, 33, 34, 35, 36, 37, 38, 39, 40, 41, 42, 43, 44] rfl (by decide +kernel)
set_option maxRecDepth 20000 in
theorem gX12_askedBy_X12_kind : GoodIn wsX12_askedBy (wsV RX12 91 RX12 yX12_kind wsX12_kind) := goodIn_app (goodIn_of _ (by decide +kernel)) ggX12_askedBy_X12_kind
set_option maxRecDepth 20000 in
set_option maxRecDepth 100000 in
theorem ggX12_askedBy_X12_isIn : GoodIn wsX12_askedBy wsX12_isIn := goodIn_r _ [10] rfl (by decide +kernel)
set_option maxRecDepth 20000 in
theorem gX12_askedBy_X12_isIn : GoodIn wsX12_askedBy (va_wsS RX12 57 yX12_isIn wsX12_isIn) := goodIn_app (goodIn_of _ (by decide +kernel)) ggX12_askedBy_X12_isIn
set_option maxRecDepth 20000 in
set_option maxRecDepth 100000 in
theorem ggX12_askedBy_X12_counts : GoodIn wsX12_askedBy wsX12_counts := goodIn_r _ [14, 7, 15, 16, 17, 5, 18, 19, 20, 21, 22, 8, 9, 10, 2, 3, 4, 6, 27, 28, 29, 30, 31, 32, 33, 34, 35, 36, 37, 38, 39, 40, 41, 42, 43, 44] rfl (by decide +kernel)
set_option maxRecDepth 20000 in
theorem gX12_askedBy_X12_counts : GoodIn wsX12_askedBy (wsV RX12 109 RX12 yX12_counts wsX12_counts) := goodIn_app (goodIn_of _ (by decide +kernel)) ggX12_askedBy_X12_counts
set_option maxRecDepth 20000 in
set_option maxRecDepth 100000 in
theorem ggX12_askedBy_X12_asks : GoodIn wsX12_askedBy wsX12_asks := goodIn_r _ [26, 7, 27, 28, 29, 30, 31, 32, 33, 34, 35, 36, 37, 38, 39, 40, 41, 42, 43, 44] rfl (by decide +kernel)
set_option maxRecDepth 20000 in
theorem gX12_askedBy_X12_asks : GoodIn wsX12_askedBy (wsV RX12 87 RX12 yX12_asks wsX12_asks) := goodIn_app (goodIn_of _ (by decide +kernel)) ggX12_askedBy_X12_asks
theorem dX12_askedBy_0 : decode cX12_askedBy 0 = .ok (.aload_n 0, 1) := by decide +kernel
theorem dX12_askedBy_1 : decode cX12_askedBy 1 = .ok (.iload_n 1, 1) := by decide +kernel
theorem dX12_askedBy_2 : decode cX12_askedBy 2 = .ok (.invokevirtual 91, 3) := by decide +kernel
theorem dX12_askedBy_5 : decode cX12_askedBy 5 = .ok (.i2l, 1) := by decide +kernel
theorem dX12_askedBy_6 : decode cX12_askedBy 6 = .ok (.lconst 1, 1) := by decide +kernel
theorem dX12_askedBy_7 : decode cX12_askedBy 7 = .ok (.ldc2_w 94, 3) := by decide +kernel
theorem dX12_askedBy_10 : decode cX12_askedBy 10 = .ok (.invokestatic 57, 3) := by decide +kernel
theorem dX12_askedBy_13 : decode cX12_askedBy 13 = .ok (.ifCond .eq 31, 3) := by decide +kernel
theorem dX12_askedBy_16 : decode cX12_askedBy 16 = .ok (.aload_n 0, 1) := by decide +kernel
theorem dX12_askedBy_17 : decode cX12_askedBy 17 = .ok (.iload_n 1, 1) := by decide +kernel
theorem dX12_askedBy_18 : decode cX12_askedBy 18 = .ok (.invokevirtual 109, 3) := by decide +kernel
theorem dX12_askedBy_21 : decode cX12_askedBy 21 = .ok (.ifCond .eq 23, 3) := by decide +kernel
theorem dX12_askedBy_24 : decode cX12_askedBy 24 = .ok (.aload_n 0, 1) := by decide +kernel
theorem dX12_askedBy_25 : decode cX12_askedBy 25 = .ok (.aload_n 0, 1) := by decide +kernel
theorem dX12_askedBy_26 : decode cX12_askedBy 26 = .ok (.iload_n 1, 1) := by decide +kernel
theorem dX12_askedBy_27 : decode cX12_askedBy 27 = .ok (.invokevirtual 87, 3) := by decide +kernel
theorem dX12_askedBy_30 : decode cX12_askedBy 30 = .ok (.invokevirtual 109, 3) := by decide +kernel
theorem dX12_askedBy_33 : decode cX12_askedBy 33 = .ok (.ifCond .eq 11, 3) := by decide +kernel
theorem dX12_askedBy_36 : decode cX12_askedBy 36 = .ok (.aload_n 0, 1) := by decide +kernel
theorem dX12_askedBy_37 : decode cX12_askedBy 37 = .ok (.iload_n 1, 1) := by decide +kernel
theorem dX12_askedBy_38 : decode cX12_askedBy 38 = .ok (.invokevirtual 87, 3) := by decide +kernel
theorem dX12_askedBy_41 : decode cX12_askedBy 41 = .ok (.goto 4, 3) := by decide +kernel
theorem dX12_askedBy_44 : decode cX12_askedBy 44 = .ok (.iconst (-1), 1) := by decide +kernel
theorem dX12_askedBy_45 : decode cX12_askedBy 45 = .ok (.ireturn, 1) := by decide +kernel
set_option maxRecDepth 20000 in
set_option maxRecDepth 100000 in
theorem ggX12_may_X12_askedBy : GoodIn wsX12_may wsX12_askedBy := goodIn_r _ [5, 6, 7, 8, 9, 4, 10, 11, 12, 13, 14, 15, 16, 17, 18, 19, 20, 21, 22, 23, 24, 25, 26, 27, 28, 29, 30, 31, 32, 33, 34, 35, 36, 37, 38, 39, 40, 41, 42, 43, 44, 45, 46, 47, 48] rfl (by decide +kernel)
set_option maxRecDepth 20000 in
theorem gX12_may_X12_askedBy : GoodIn wsX12_may (wsV RX12 114 RX12 yX12_askedBy wsX12_askedBy) := goodIn_app (goodIn_of _ (by decide +kernel)) ggX12_may_X12_askedBy
set_option maxRecDepth 20000 in
set_option maxRecDepth 100000 in
theorem ggX12_may_X12_kind : GoodIn wsX12_may wsX12_kind := goodIn_r _ [10, 11, 31, 32, 33, 34, 35, 36, 37, 38, 39, 40, 41, 42, 43, 44, 45, 46, 47, 48] rfl (by decide +kernel)
set_option maxRecDepth 20000 in
theorem gX12_may_X12_kind : GoodIn wsX12_may (wsV RX12 91 RX12 yX12_kind wsX12_kind) := goodIn_app (goodIn_of _ (by decide +kernel)) ggX12_may_X12_kind
theorem dX12_may_0 : decode cX12_may 0 = .ok (.aload_n 0, 1) := by decide +kernel
theorem dX12_may_1 : decode cX12_may 1 = .ok (.iload_n 1, 1) := by decide +kernel
theorem dX12_may_2 : decode cX12_may 2 = .ok (.invokevirtual 114, 3) := by decide +kernel
theorem dX12_may_5 : decode cX12_may 5 = .ok (.istore 4, 2) := by decide +kernel
theorem dX12_may_7 : decode cX12_may 7 = .ok (.iload 4, 2) := by decide +kernel
theorem dX12_may_9 : decode cX12_may 9 = .ok (.ifCond .ge 5, 3) := by decide +kernel
theorem dX12_may_12 : decode cX12_may 12 = .ok (.iconst 1, 1) := by decide +kernel
theorem dX12_may_13 : decode cX12_may 13 = .ok (.ireturn, 1) := by decide +kernel
theorem dX12_may_14 : decode cX12_may 14 = .ok (.iload_n 2, 1) := by decide +kernel
theorem dX12_may_15 : decode cX12_may 15 = .ok (.iload 4, 2) := by decide +kernel
theorem dX12_may_17 : decode cX12_may 17 = .ok (.ishr, 1) := by decide +kernel
theorem dX12_may_18 : decode cX12_may 18 = .ok (.iconst 1, 1) := by decide +kernel
theorem dX12_may_19 : decode cX12_may 19 = .ok (.iand, 1) := by decide +kernel
theorem dX12_may_20 : decode cX12_may 20 = .ok (.iconst 1, 1) := by decide +kernel
theorem dX12_may_21 : decode cX12_may 21 = .ok (.if_icmp .ne 7, 3) := by decide +kernel
theorem dX12_may_24 : decode cX12_may 24 = .ok (.iconst 1, 1) := by decide +kernel
theorem dX12_may_25 : decode cX12_may 25 = .ok (.goto 4, 3) := by decide +kernel
theorem dX12_may_28 : decode cX12_may 28 = .ok (.iconst 0, 1) := by decide +kernel
theorem dX12_may_29 : decode cX12_may 29 = .ok (.istore 5, 2) := by decide +kernel
theorem dX12_may_31 : decode cX12_may 31 = .ok (.aload_n 0, 1) := by decide +kernel
theorem dX12_may_32 : decode cX12_may 32 = .ok (.iload_n 1, 1) := by decide +kernel
theorem dX12_may_33 : decode cX12_may 33 = .ok (.invokevirtual 91, 3) := by decide +kernel
theorem dX12_may_36 : decode cX12_may 36 = .ok (.iconst 1, 1) := by decide +kernel
theorem dX12_may_37 : decode cX12_may 37 = .ok (.if_icmp .ne 8, 3) := by decide +kernel
theorem dX12_may_40 : decode cX12_may 40 = .ok (.iload 5, 2) := by decide +kernel
theorem dX12_may_42 : decode cX12_may 42 = .ok (.goto 36, 3) := by decide +kernel
theorem dX12_may_45 : decode cX12_may 45 = .ok (.aload_n 0, 1) := by decide +kernel
theorem dX12_may_46 : decode cX12_may 46 = .ok (.iload_n 1, 1) := by decide +kernel
theorem dX12_may_47 : decode cX12_may 47 = .ok (.invokevirtual 91, 3) := by decide +kernel
theorem dX12_may_50 : decode cX12_may 50 = .ok (.iconst 2, 1) := by decide +kernel
theorem dX12_may_51 : decode cX12_may 51 = .ok (.if_icmp .ne 16, 3) := by decide +kernel
theorem dX12_may_54 : decode cX12_may 54 = .ok (.iload 5, 2) := by decide +kernel
theorem dX12_may_56 : decode cX12_may 56 = .ok (.ifCond .ne 7, 3) := by decide +kernel
theorem dX12_may_59 : decode cX12_may 59 = .ok (.iconst 1, 1) := by decide +kernel
theorem dX12_may_60 : decode cX12_may 60 = .ok (.goto 18, 3) := by decide +kernel
theorem dX12_may_63 : decode cX12_may 63 = .ok (.iconst 0, 1) := by decide +kernel
theorem dX12_may_64 : decode cX12_may 64 = .ok (.goto 14, 3) := by decide +kernel
theorem dX12_may_67 : decode cX12_may 67 = .ok (.iload_n 3, 1) := by decide +kernel
theorem dX12_may_68 : decode cX12_may 68 = .ok (.iload 4, 2) := by decide +kernel
theorem dX12_may_70 : decode cX12_may 70 = .ok (.if_icmp .ne 7, 3) := by decide +kernel
theorem dX12_may_73 : decode cX12_may 73 = .ok (.iconst 1, 1) := by decide +kernel
theorem dX12_may_74 : decode cX12_may 74 = .ok (.goto 4, 3) := by decide +kernel
theorem dX12_may_77 : decode cX12_may 77 = .ok (.iconst 0, 1) := by decide +kernel
theorem dX12_may_78 : decode cX12_may 78 = .ok (.ireturn, 1) := by decide +kernel
set_option maxRecDepth 20000 in
set_option maxRecDepth 100000 in
theorem ggX12_cost_X12_peckOf : GoodIn wsX12_cost wsX12_peckOf := goodIn_r _ [5, 6, 7, 8, 9, 10, 11, 12, 13, 14, 15, 16, 17, 18, 19, 20, 21, 22, 23, 24] rfl (by decide +kernel)
set_option maxRecDepth 20000 in
theorem gX12_cost_X12_peckOf : GoodIn wsX12_cost (wsV RX12 105 RX12 yX12_peckOf wsX12_peckOf) := goodIn_app (goodIn_of _ (by decide +kernel)) ggX12_cost_X12_peckOf
theorem dX12_cost_0 : decode cX12_cost 0 = .ok (.lconst 0, 1) := by decide +kernel
theorem dX12_cost_1 : decode cX12_cost 1 = .ok (.lstore_n 3, 1) := by decide +kernel
theorem dX12_cost_2 : decode cX12_cost 2 = .ok (.iconst 0, 1) := by decide +kernel
theorem dX12_cost_3 : decode cX12_cost 3 = .ok (.istore 5, 2) := by decide +kernel
theorem dX12_cost_5 : decode cX12_cost 5 = .ok (.iload 5, 2) := by decide +kernel
theorem dX12_cost_7 : decode cX12_cost 7 = .ok (.bipush 12, 2) := by decide +kernel
theorem dX12_cost_9 : decode cX12_cost 9 = .ok (.if_icmp .ge 34, 3) := by decide +kernel
theorem dX12_cost_12 : decode cX12_cost 12 = .ok (.lload_n 3, 1) := by decide +kernel
theorem dX12_cost_13 : decode cX12_cost 13 = .ok (.iload_n 2, 1) := by decide +kernel
theorem dX12_cost_14 : decode cX12_cost 14 = .ok (.iload 5, 2) := by decide +kernel
theorem dX12_cost_16 : decode cX12_cost 16 = .ok (.ishr, 1) := by decide +kernel
theorem dX12_cost_17 : decode cX12_cost 17 = .ok (.iconst 1, 1) := by decide +kernel
theorem dX12_cost_18 : decode cX12_cost 18 = .ok (.iand, 1) := by decide +kernel
theorem dX12_cost_19 : decode cX12_cost 19 = .ok (.iconst 1, 1) := by decide +kernel
theorem dX12_cost_20 : decode cX12_cost 20 = .ok (.if_icmp .ne 14, 3) := by decide +kernel
theorem dX12_cost_23 : decode cX12_cost 23 = .ok (.aload_n 0, 1) := by decide +kernel
theorem dX12_cost_24 : decode cX12_cost 24 = .ok (.iload_n 1, 1) := by decide +kernel
theorem dX12_cost_25 : decode cX12_cost 25 = .ok (.iload 5, 2) := by decide +kernel
theorem dX12_cost_27 : decode cX12_cost 27 = .ok (.invokevirtual 105, 3) := by decide +kernel
theorem dX12_cost_30 : decode cX12_cost 30 = .ok (.i2l, 1) := by decide +kernel
theorem dX12_cost_31 : decode cX12_cost 31 = .ok (.goto 4, 3) := by decide +kernel
theorem dX12_cost_34 : decode cX12_cost 34 = .ok (.lconst 0, 1) := by decide +kernel
theorem dX12_cost_35 : decode cX12_cost 35 = .ok (.ladd, 1) := by decide +kernel
theorem dX12_cost_36 : decode cX12_cost 36 = .ok (.lstore_n 3, 1) := by decide +kernel
theorem dX12_cost_37 : decode cX12_cost 37 = .ok (.iinc 5 1, 3) := by decide +kernel
theorem dX12_cost_40 : decode cX12_cost 40 = .ok (.goto (-35), 3) := by decide +kernel
theorem dX12_cost_43 : decode cX12_cost 43 = .ok (.lload_n 3, 1) := by decide +kernel
theorem dX12_cost_44 : decode cX12_cost 44 = .ok (.lreturn, 1) := by decide +kernel
set_option maxRecDepth 20000 in
set_option maxRecDepth 100000 in
theorem ggX12_mayCome_X12_counts : GoodIn wsX12_mayCome wsX12_counts := goodIn_r _ [8, 9, 10, 11, 12, 7, 13, 14, 15, 16, 17, 18, 19, 20, 21, 22, 23, 24, 38, 39, 40, 41, 42, 43, 44, 45, 46, 47, 48, 49, 50, 51, 52, 53, 54, 55] rfl (by decide +kernel)
set_option maxRecDepth 20000 in
theorem gX12_mayCome_X12_counts : GoodIn wsX12_mayCome (wsV RX12 109 RX12 yX12_counts wsX12_counts) := goodIn_app (goodIn_of _ (by decide +kernel)) ggX12_mayCome_X12_counts
set_option maxRecDepth 20000 in
set_option maxRecDepth 100000 in
theorem ggX12_mayCome_X12_may : GoodIn wsX12_mayCome wsX12_may := goodIn_r _ [28, 29, 30, 31, 7, 32, 33, 21, 22, 23, 24, 9, 18, 19, 20, 4, 5, 6, 8, 10, 11, 12, 13, 14, 15, 16, 17, 34, 35, 36, 37, 38, 39, 40, 41, 42, 43, 44, 45, 46, 47, 48, 49, 50, 51, 52, 53, 54, 55] rfl (by decide +kernel)
set_option maxRecDepth 20000 in
theorem gX12_mayCome_X12_may : GoodIn wsX12_mayCome (wsV RX12 127 RX12 yX12_may wsX12_may) := goodIn_app (goodIn_of _ (by decide +kernel)) ggX12_mayCome_X12_may
theorem dX12_mayCome_0 : decode cX12_mayCome 0 = .ok (.iload_n 2, 1) := by decide +kernel
theorem dX12_mayCome_1 : decode cX12_mayCome 1 = .ok (.iload_n 1, 1) := by decide +kernel
theorem dX12_mayCome_2 : decode cX12_mayCome 2 = .ok (.ishr, 1) := by decide +kernel
theorem dX12_mayCome_3 : decode cX12_mayCome 3 = .ok (.iconst 1, 1) := by decide +kernel
theorem dX12_mayCome_4 : decode cX12_mayCome 4 = .ok (.iand, 1) := by decide +kernel
theorem dX12_mayCome_5 : decode cX12_mayCome 5 = .ok (.iconst 1, 1) := by decide +kernel
theorem dX12_mayCome_6 : decode cX12_mayCome 6 = .ok (.if_icmp .eq 11, 3) := by decide +kernel
theorem dX12_mayCome_9 : decode cX12_mayCome 9 = .ok (.aload_n 0, 1) := by decide +kernel
theorem dX12_mayCome_10 : decode cX12_mayCome 10 = .ok (.iload_n 1, 1) := by decide +kernel
theorem dX12_mayCome_11 : decode cX12_mayCome 11 = .ok (.invokevirtual 109, 3) := by decide +kernel
theorem dX12_mayCome_14 : decode cX12_mayCome 14 = .ok (.ifCond .ne 5, 3) := by decide +kernel
theorem dX12_mayCome_17 : decode cX12_mayCome 17 = .ok (.iconst 0, 1) := by decide +kernel
theorem dX12_mayCome_18 : decode cX12_mayCome 18 = .ok (.ireturn, 1) := by decide +kernel
theorem dX12_mayCome_19 : decode cX12_mayCome 19 = .ok (.iload_n 1, 1) := by decide +kernel
theorem dX12_mayCome_20 : decode cX12_mayCome 20 = .ok (.aload_n 0, 1) := by decide +kernel
theorem dX12_mayCome_21 : decode cX12_mayCome 21 = .ok (.getfield 117, 3) := by decide +kernel
theorem dX12_mayCome_24 : decode cX12_mayCome 24 = .ok (.if_icmp .ne 16, 3) := by decide +kernel
theorem dX12_mayCome_27 : decode cX12_mayCome 27 = .ok (.iload_n 2, 1) := by decide +kernel
theorem dX12_mayCome_28 : decode cX12_mayCome 28 = .ok (.aload_n 0, 1) := by decide +kernel
theorem dX12_mayCome_29 : decode cX12_mayCome 29 = .ok (.getfield 120, 3) := by decide +kernel
theorem dX12_mayCome_32 : decode cX12_mayCome 32 = .ok (.ishr, 1) := by decide +kernel
theorem dX12_mayCome_33 : decode cX12_mayCome 33 = .ok (.iconst 1, 1) := by decide +kernel
theorem dX12_mayCome_34 : decode cX12_mayCome 34 = .ok (.iand, 1) := by decide +kernel
theorem dX12_mayCome_35 : decode cX12_mayCome 35 = .ok (.ifCond .ne 5, 3) := by decide +kernel
theorem dX12_mayCome_38 : decode cX12_mayCome 38 = .ok (.iconst 0, 1) := by decide +kernel
theorem dX12_mayCome_39 : decode cX12_mayCome 39 = .ok (.ireturn, 1) := by decide +kernel
theorem dX12_mayCome_40 : decode cX12_mayCome 40 = .ok (.aload_n 0, 1) := by decide +kernel
theorem dX12_mayCome_41 : decode cX12_mayCome 41 = .ok (.getfield 123, 3) := by decide +kernel
theorem dX12_mayCome_44 : decode cX12_mayCome 44 = .ok (.ifCond .eq 13, 3) := by decide +kernel
theorem dX12_mayCome_47 : decode cX12_mayCome 47 = .ok (.aload_n 0, 1) := by decide +kernel
theorem dX12_mayCome_48 : decode cX12_mayCome 48 = .ok (.iload_n 1, 1) := by decide +kernel
theorem dX12_mayCome_49 : decode cX12_mayCome 49 = .ok (.iload_n 2, 1) := by decide +kernel
theorem dX12_mayCome_50 : decode cX12_mayCome 50 = .ok (.iload_n 3, 1) := by decide +kernel
theorem dX12_mayCome_51 : decode cX12_mayCome 51 = .ok (.invokevirtual 127, 3) := by decide +kernel
theorem dX12_mayCome_54 : decode cX12_mayCome 54 = .ok (.ifCond .eq 7, 3) := by decide +kernel
theorem dX12_mayCome_57 : decode cX12_mayCome 57 = .ok (.iconst 1, 1) := by decide +kernel
theorem dX12_mayCome_58 : decode cX12_mayCome 58 = .ok (.goto 4, 3) := by decide +kernel
theorem dX12_mayCome_61 : decode cX12_mayCome 61 = .ok (.iconst 0, 1) := by decide +kernel
theorem dX12_mayCome_62 : decode cX12_mayCome 62 = .ok (.ireturn, 1) := by decide +kernel
set_option maxRecDepth 20000 in
set_option maxRecDepth 100000 in
theorem ggX12_fillState_X12_hens : GoodIn wsX12_fillState wsX12_hens := goodIn_r _ [8, 9, 53, 54, 55, 56, 57, 58, 59, 60, 61, 62, 63, 64, 65, 66, 67, 68, 69, 70] rfl (by decide +kernel)
set_option maxRecDepth 20000 in
theorem gX12_fillState_X12_hens : GoodIn wsX12_fillState (wsV RX12 53 RX12 yX12_hens wsX12_hens) := goodIn_app (goodIn_of _ (by decide +kernel)) ggX12_fillState_X12_hens
set_option maxRecDepth 20000 in
set_option maxRecDepth 100000 in
theorem ggX12_fillState_X12_mayCome : GoodIn wsX12_fillState wsX12_mayCome := goodIn_r _ [13, 14, 15, 16, 17, 18, 19, 7, 20, 9, 21, 22, 23, 24, 4, 5, 6, 8, 25, 26, 27, 28, 29, 30, 31, 32, 33, 34, 35, 36, 37, 38, 39, 40, 41, 42, 43, 44, 53, 54, 55, 56, 57, 58, 59, 60, 61, 62, 63, 64, 65, 66, 67, 68, 69, 70] rfl (by decide +kernel)
set_option maxRecDepth 20000 in
theorem gX12_fillState_X12_mayCome : GoodIn wsX12_fillState (wsV RX12 133 RX12 yX12_mayCome wsX12_mayCome) := goodIn_app (goodIn_of _ (by decide +kernel)) ggX12_fillState_X12_mayCome
set_option maxRecDepth 20000 in
set_option maxRecDepth 100000 in
theorem ggX12_fillState_X12_cost : GoodIn wsX12_fillState wsX12_cost := goodIn_r _ [48, 49, 50, 51, 7, 52, 9, 53, 54, 55, 56, 57, 58, 59, 60, 61, 62, 63, 64, 65, 66, 67, 68, 69, 70] rfl (by decide +kernel)
set_option maxRecDepth 20000 in
theorem gX12_fillState_X12_cost : GoodIn wsX12_fillState (wsV RX12 136 RX12 yX12_cost wsX12_cost) := goodIn_app (goodIn_of _ (by decide +kernel)) ggX12_fillState_X12_cost
theorem dX12_fillState_0 : decode cX12_fillState 0 = .ok (.bipush 13, 2) := by decide +kernel
theorem dX12_fillState_2 : decode cX12_fillState 2 = .ok (.iload_n 1, 1) := by decide +kernel
theorem dX12_fillState_3 : decode cX12_fillState 3 = .ok (.imul, 1) := by decide +kernel
theorem dX12_fillState_4 : decode cX12_fillState 4 = .ok (.iload_n 2, 1) := by decide +kernel
theorem dX12_fillState_5 : decode cX12_fillState 5 = .ok (.iadd, 1) := by decide +kernel
theorem dX12_fillState_6 : decode cX12_fillState 6 = .ok (.istore_n 3, 1) := by decide +kernel
theorem dX12_fillState_7 : decode cX12_fillState 7 = .ok (.aload_n 0, 1) := by decide +kernel
theorem dX12_fillState_8 : decode cX12_fillState 8 = .ok (.getfield 20, 3) := by decide +kernel
theorem dX12_fillState_11 : decode cX12_fillState 11 = .ok (.iload_n 3, 1) := by decide +kernel
theorem dX12_fillState_12 : decode cX12_fillState 12 = .ok (.ldc2_w 131, 3) := by decide +kernel
theorem dX12_fillState_15 : decode cX12_fillState 15 = .ok (.lastore, 1) := by decide +kernel
theorem dX12_fillState_16 : decode cX12_fillState 16 = .ok (.aload_n 0, 1) := by decide +kernel
theorem dX12_fillState_17 : decode cX12_fillState 17 = .ok (.getfield 24, 3) := by decide +kernel
theorem dX12_fillState_20 : decode cX12_fillState 20 = .ok (.iload_n 3, 1) := by decide +kernel
theorem dX12_fillState_21 : decode cX12_fillState 21 = .ok (.lconst 0, 1) := by decide +kernel
theorem dX12_fillState_22 : decode cX12_fillState 22 = .ok (.lastore, 1) := by decide +kernel
theorem dX12_fillState_23 : decode cX12_fillState 23 = .ok (.iconst 0, 1) := by decide +kernel
theorem dX12_fillState_24 : decode cX12_fillState 24 = .ok (.istore 4, 2) := by decide +kernel
theorem dX12_fillState_26 : decode cX12_fillState 26 = .ok (.iload 4, 2) := by decide +kernel
theorem dX12_fillState_28 : decode cX12_fillState 28 = .ok (.aload_n 0, 1) := by decide +kernel
theorem dX12_fillState_29 : decode cX12_fillState 29 = .ok (.invokevirtual 53, 3) := by decide +kernel
theorem dX12_fillState_32 : decode cX12_fillState 32 = .ok (.if_icmp .ge 139, 3) := by decide +kernel
theorem dX12_fillState_35 : decode cX12_fillState 35 = .ok (.aload_n 0, 1) := by decide +kernel
theorem dX12_fillState_36 : decode cX12_fillState 36 = .ok (.iload 4, 2) := by decide +kernel
theorem dX12_fillState_38 : decode cX12_fillState 38 = .ok (.iload_n 1, 1) := by decide +kernel
theorem dX12_fillState_39 : decode cX12_fillState 39 = .ok (.iload_n 2, 1) := by decide +kernel
theorem dX12_fillState_40 : decode cX12_fillState 40 = .ok (.invokevirtual 133, 3) := by decide +kernel
theorem dX12_fillState_43 : decode cX12_fillState 43 = .ok (.ifCond .eq 122, 3) := by decide +kernel
theorem dX12_fillState_46 : decode cX12_fillState 46 = .ok (.bipush 13, 2) := by decide +kernel
theorem dX12_fillState_48 : decode cX12_fillState 48 = .ok (.iload_n 1, 1) := by decide +kernel
theorem dX12_fillState_49 : decode cX12_fillState 49 = .ok (.iconst 1, 1) := by decide +kernel
theorem dX12_fillState_50 : decode cX12_fillState 50 = .ok (.iload 4, 2) := by decide +kernel
theorem dX12_fillState_52 : decode cX12_fillState 52 = .ok (.ishl, 1) := by decide +kernel
theorem dX12_fillState_53 : decode cX12_fillState 53 = .ok (.ior, 1) := by decide +kernel
theorem dX12_fillState_54 : decode cX12_fillState 54 = .ok (.imul, 1) := by decide +kernel
theorem dX12_fillState_55 : decode cX12_fillState 55 = .ok (.iload 4, 2) := by decide +kernel
theorem dX12_fillState_57 : decode cX12_fillState 57 = .ok (.iadd, 1) := by decide +kernel
theorem dX12_fillState_58 : decode cX12_fillState 58 = .ok (.istore 5, 2) := by decide +kernel
theorem dX12_fillState_60 : decode cX12_fillState 60 = .ok (.aload_n 0, 1) := by decide +kernel
theorem dX12_fillState_61 : decode cX12_fillState 61 = .ok (.getfield 20, 3) := by decide +kernel
theorem dX12_fillState_64 : decode cX12_fillState 64 = .ok (.iload 5, 2) := by decide +kernel
theorem dX12_fillState_66 : decode cX12_fillState 66 = .ok (.laload, 1) := by decide +kernel
theorem dX12_fillState_67 : decode cX12_fillState 67 = .ok (.ldc2_w 131, 3) := by decide +kernel
theorem dX12_fillState_70 : decode cX12_fillState 70 = .ok (.lcmp, 1) := by decide +kernel
theorem dX12_fillState_71 : decode cX12_fillState 71 = .ok (.ifCond .lt 9, 3) := by decide +kernel
theorem dX12_fillState_74 : decode cX12_fillState 74 = .ok (.ldc2_w 131, 3) := by decide +kernel
theorem dX12_fillState_77 : decode cX12_fillState 77 = .ok (.goto 18, 3) := by decide +kernel
theorem dX12_fillState_80 : decode cX12_fillState 80 = .ok (.aload_n 0, 1) := by decide +kernel
theorem dX12_fillState_81 : decode cX12_fillState 81 = .ok (.iload 4, 2) := by decide +kernel
theorem dX12_fillState_83 : decode cX12_fillState 83 = .ok (.iload_n 1, 1) := by decide +kernel
theorem dX12_fillState_84 : decode cX12_fillState 84 = .ok (.invokevirtual 136, 3) := by decide +kernel
theorem dX12_fillState_87 : decode cX12_fillState 87 = .ok (.aload_n 0, 1) := by decide +kernel
theorem dX12_fillState_88 : decode cX12_fillState 88 = .ok (.getfield 20, 3) := by decide +kernel
theorem dX12_fillState_91 : decode cX12_fillState 91 = .ok (.iload 5, 2) := by decide +kernel
theorem dX12_fillState_93 : decode cX12_fillState 93 = .ok (.laload, 1) := by decide +kernel
theorem dX12_fillState_94 : decode cX12_fillState 94 = .ok (.ladd, 1) := by decide +kernel
theorem dX12_fillState_95 : decode cX12_fillState 95 = .ok (.lstore 6, 2) := by decide +kernel
theorem dX12_fillState_97 : decode cX12_fillState 97 = .ok (.lload 6, 2) := by decide +kernel
theorem dX12_fillState_99 : decode cX12_fillState 99 = .ok (.aload_n 0, 1) := by decide +kernel
theorem dX12_fillState_100 : decode cX12_fillState 100 = .ok (.getfield 20, 3) := by decide +kernel
theorem dX12_fillState_103 : decode cX12_fillState 103 = .ok (.iload_n 3, 1) := by decide +kernel
theorem dX12_fillState_104 : decode cX12_fillState 104 = .ok (.laload, 1) := by decide +kernel
theorem dX12_fillState_105 : decode cX12_fillState 105 = .ok (.lcmp, 1) := by decide +kernel
theorem dX12_fillState_106 : decode cX12_fillState 106 = .ok (.ifCond .ge 18, 3) := by decide +kernel
theorem dX12_fillState_109 : decode cX12_fillState 109 = .ok (.aload_n 0, 1) := by decide +kernel
theorem dX12_fillState_110 : decode cX12_fillState 110 = .ok (.getfield 20, 3) := by decide +kernel
theorem dX12_fillState_113 : decode cX12_fillState 113 = .ok (.iload_n 3, 1) := by decide +kernel
theorem dX12_fillState_114 : decode cX12_fillState 114 = .ok (.lload 6, 2) := by decide +kernel
theorem dX12_fillState_116 : decode cX12_fillState 116 = .ok (.lastore, 1) := by decide +kernel
theorem dX12_fillState_117 : decode cX12_fillState 117 = .ok (.aload_n 0, 1) := by decide +kernel
theorem dX12_fillState_118 : decode cX12_fillState 118 = .ok (.getfield 24, 3) := by decide +kernel
theorem dX12_fillState_121 : decode cX12_fillState 121 = .ok (.iload_n 3, 1) := by decide +kernel
theorem dX12_fillState_122 : decode cX12_fillState 122 = .ok (.lconst 0, 1) := by decide +kernel
theorem dX12_fillState_123 : decode cX12_fillState 123 = .ok (.lastore, 1) := by decide +kernel
theorem dX12_fillState_124 : decode cX12_fillState 124 = .ok (.aload_n 0, 1) := by decide +kernel
theorem dX12_fillState_125 : decode cX12_fillState 125 = .ok (.getfield 24, 3) := by decide +kernel
theorem dX12_fillState_128 : decode cX12_fillState 128 = .ok (.iload_n 3, 1) := by decide +kernel
theorem dX12_fillState_129 : decode cX12_fillState 129 = .ok (.dup2, 1) := by decide +kernel
theorem dX12_fillState_130 : decode cX12_fillState 130 = .ok (.laload, 1) := by decide +kernel
theorem dX12_fillState_131 : decode cX12_fillState 131 = .ok (.lload 6, 2) := by decide +kernel
theorem dX12_fillState_133 : decode cX12_fillState 133 = .ok (.ldc2_w 131, 3) := by decide +kernel
theorem dX12_fillState_136 : decode cX12_fillState 136 = .ok (.lcmp, 1) := by decide +kernel
theorem dX12_fillState_137 : decode cX12_fillState 137 = .ok (.ifCond .ge 25, 3) := by decide +kernel
theorem dX12_fillState_140 : decode cX12_fillState 140 = .ok (.lload 6, 2) := by decide +kernel
theorem dX12_fillState_142 : decode cX12_fillState 142 = .ok (.aload_n 0, 1) := by decide +kernel
theorem dX12_fillState_143 : decode cX12_fillState 143 = .ok (.getfield 20, 3) := by decide +kernel
theorem dX12_fillState_146 : decode cX12_fillState 146 = .ok (.iload_n 3, 1) := by decide +kernel
theorem dX12_fillState_147 : decode cX12_fillState 147 = .ok (.laload, 1) := by decide +kernel
theorem dX12_fillState_148 : decode cX12_fillState 148 = .ok (.lcmp, 1) := by decide +kernel
theorem dX12_fillState_149 : decode cX12_fillState 149 = .ok (.ifCond .ne 13, 3) := by decide +kernel
theorem dX12_fillState_152 : decode cX12_fillState 152 = .ok (.aload_n 0, 1) := by decide +kernel
theorem dX12_fillState_153 : decode cX12_fillState 153 = .ok (.getfield 24, 3) := by decide +kernel
theorem dX12_fillState_156 : decode cX12_fillState 156 = .ok (.iload 5, 2) := by decide +kernel
theorem dX12_fillState_158 : decode cX12_fillState 158 = .ok (.laload, 1) := by decide +kernel
theorem dX12_fillState_159 : decode cX12_fillState 159 = .ok (.goto 4, 3) := by decide +kernel
theorem dX12_fillState_162 : decode cX12_fillState 162 = .ok (.lconst 0, 1) := by decide +kernel
theorem dX12_fillState_163 : decode cX12_fillState 163 = .ok (.ladd, 1) := by decide +kernel
theorem dX12_fillState_164 : decode cX12_fillState 164 = .ok (.lastore, 1) := by decide +kernel
theorem dX12_fillState_165 : decode cX12_fillState 165 = .ok (.iinc 4 1, 3) := by decide +kernel
theorem dX12_fillState_168 : decode cX12_fillState 168 = .ok (.goto (-142), 3) := by decide +kernel
theorem dX12_fillState_171 : decode cX12_fillState 171 = .ok (.return_, 1) := by decide +kernel
set_option maxRecDepth 20000 in
set_option maxRecDepth 100000 in
theorem ggX12_fill_X12_counting : GoodIn wsX12_fill wsX12_counting := goodIn_r _ [10, 11, 12, 13, 9, 14, 15, 16, 17, 18, 19, 20, 21, 22, 23, 24, 25, 26, 27, 28, 29, 30, 61, 62, 63, 64, 65, 66, 67, 68, 69, 70, 71, 72, 73, 74, 75, 76, 77, 78] rfl (by decide +kernel)
set_option maxRecDepth 20000 in
theorem gX12_fill_X12_counting : GoodIn wsX12_fill (wsV RX12 140 RX12 yX12_counting wsX12_counting) := goodIn_app (goodIn_of _ (by decide +kernel)) ggX12_fill_X12_counting
set_option maxRecDepth 20000 in
set_option maxRecDepth 100000 in
theorem ggX12_fill_X12_fillState : GoodIn wsX12_fill wsX12_fillState := goodIn_r _ [34, 4, 35, 5, 11, 12, 13, 9, 14, 15, 36, 37, 38, 39, 3, 2, 1, 16, 17, 18, 19, 20, 21, 22, 23, 24, 25, 26, 27, 28, 29, 30, 40, 41, 42, 43, 44, 45, 46, 47, 48, 49, 50, 51, 52, 53, 54, 55, 56, 57, 58, 59, 60, 61, 62, 63, 64, 65, 66, 67, 68, 69, 70, 71, 72, 73, 74, 75, 76, 77, 78] rfl (by decide +kernel)
set_option maxRecDepth 20000 in
theorem gX12_fill_X12_fillState : GoodIn wsX12_fill (wsV RX12 143 RX12 yX12_fillState wsX12_fillState) := goodIn_app (goodIn_of _ (by decide +kernel)) ggX12_fill_X12_fillState
theorem dX12_fill_0 : decode cX12_fill 0 = .ok (.aload_n 0, 1) := by decide +kernel
theorem dX12_fill_1 : decode cX12_fill 1 = .ok (.iload_n 1, 1) := by decide +kernel
theorem dX12_fill_2 : decode cX12_fill 2 = .ok (.putfield 123, 3) := by decide +kernel
theorem dX12_fill_5 : decode cX12_fill 5 = .ok (.aload_n 0, 1) := by decide +kernel
theorem dX12_fill_6 : decode cX12_fill 6 = .ok (.iload_n 2, 1) := by decide +kernel
theorem dX12_fill_7 : decode cX12_fill 7 = .ok (.putfield 120, 3) := by decide +kernel
theorem dX12_fill_10 : decode cX12_fill 10 = .ok (.aload_n 0, 1) := by decide +kernel
theorem dX12_fill_11 : decode cX12_fill 11 = .ok (.iload_n 3, 1) := by decide +kernel
theorem dX12_fill_12 : decode cX12_fill 12 = .ok (.putfield 117, 3) := by decide +kernel
theorem dX12_fill_15 : decode cX12_fill 15 = .ok (.aload_n 0, 1) := by decide +kernel
theorem dX12_fill_16 : decode cX12_fill 16 = .ok (.invokevirtual 140, 3) := by decide +kernel
theorem dX12_fill_19 : decode cX12_fill 19 = .ok (.istore 4, 2) := by decide +kernel
theorem dX12_fill_21 : decode cX12_fill 21 = .ok (.iload 4, 2) := by decide +kernel
theorem dX12_fill_23 : decode cX12_fill 23 = .ok (.istore 5, 2) := by decide +kernel
theorem dX12_fill_25 : decode cX12_fill 25 = .ok (.iload 5, 2) := by decide +kernel
theorem dX12_fill_27 : decode cX12_fill 27 = .ok (.ifCond .lt 129, 3) := by decide +kernel
theorem dX12_fill_30 : decode cX12_fill 30 = .ok (.iload 5, 2) := by decide +kernel
theorem dX12_fill_32 : decode cX12_fill 32 = .ok (.iload 4, 2) := by decide +kernel
theorem dX12_fill_34 : decode cX12_fill 34 = .ok (.iand, 1) := by decide +kernel
theorem dX12_fill_35 : decode cX12_fill 35 = .ok (.iload 5, 2) := by decide +kernel
theorem dX12_fill_37 : decode cX12_fill 37 = .ok (.if_icmp .ne 113, 3) := by decide +kernel
theorem dX12_fill_40 : decode cX12_fill 40 = .ok (.iconst 0, 1) := by decide +kernel
theorem dX12_fill_41 : decode cX12_fill 41 = .ok (.istore 6, 2) := by decide +kernel
theorem dX12_fill_43 : decode cX12_fill 43 = .ok (.iload 6, 2) := by decide +kernel
theorem dX12_fill_45 : decode cX12_fill 45 = .ok (.bipush 12, 2) := by decide +kernel
theorem dX12_fill_47 : decode cX12_fill 47 = .ok (.if_icmp .gt 103, 3) := by decide +kernel
theorem dX12_fill_50 : decode cX12_fill 50 = .ok (.iload 6, 2) := by decide +kernel
theorem dX12_fill_52 : decode cX12_fill 52 = .ok (.bipush 12, 2) := by decide +kernel
theorem dX12_fill_54 : decode cX12_fill 54 = .ok (.if_icmp .ne 16, 3) := by decide +kernel
theorem dX12_fill_57 : decode cX12_fill 57 = .ok (.iload 5, 2) := by decide +kernel
theorem dX12_fill_59 : decode cX12_fill 59 = .ok (.ifCond .ne 7, 3) := by decide +kernel
theorem dX12_fill_62 : decode cX12_fill 62 = .ok (.iconst 1, 1) := by decide +kernel
theorem dX12_fill_63 : decode cX12_fill 63 = .ok (.goto 23, 3) := by decide +kernel
theorem dX12_fill_66 : decode cX12_fill 66 = .ok (.iconst 0, 1) := by decide +kernel
theorem dX12_fill_67 : decode cX12_fill 67 = .ok (.goto 19, 3) := by decide +kernel
theorem dX12_fill_70 : decode cX12_fill 70 = .ok (.iload 5, 2) := by decide +kernel
theorem dX12_fill_72 : decode cX12_fill 72 = .ok (.iload 6, 2) := by decide +kernel
theorem dX12_fill_74 : decode cX12_fill 74 = .ok (.ishr, 1) := by decide +kernel
theorem dX12_fill_75 : decode cX12_fill 75 = .ok (.iconst 1, 1) := by decide +kernel
theorem dX12_fill_76 : decode cX12_fill 76 = .ok (.iand, 1) := by decide +kernel
theorem dX12_fill_77 : decode cX12_fill 77 = .ok (.iconst 1, 1) := by decide +kernel
theorem dX12_fill_78 : decode cX12_fill 78 = .ok (.if_icmp .ne 7, 3) := by decide +kernel
theorem dX12_fill_81 : decode cX12_fill 81 = .ok (.iconst 1, 1) := by decide +kernel
theorem dX12_fill_82 : decode cX12_fill 82 = .ok (.goto 4, 3) := by decide +kernel
theorem dX12_fill_85 : decode cX12_fill 85 = .ok (.iconst 0, 1) := by decide +kernel
theorem dX12_fill_86 : decode cX12_fill 86 = .ok (.istore 7, 2) := by decide +kernel
theorem dX12_fill_88 : decode cX12_fill 88 = .ok (.iload 7, 2) := by decide +kernel
theorem dX12_fill_90 : decode cX12_fill 90 = .ok (.ifCond .eq 41, 3) := by decide +kernel
theorem dX12_fill_93 : decode cX12_fill 93 = .ok (.iload 5, 2) := by decide +kernel
theorem dX12_fill_95 : decode cX12_fill 95 = .ok (.iload 4, 2) := by decide +kernel
theorem dX12_fill_97 : decode cX12_fill 97 = .ok (.if_icmp .ne 34, 3) := by decide +kernel
theorem dX12_fill_100 : decode cX12_fill 100 = .ok (.aload_n 0, 1) := by decide +kernel
theorem dX12_fill_101 : decode cX12_fill 101 = .ok (.getfield 20, 3) := by decide +kernel
theorem dX12_fill_104 : decode cX12_fill 104 = .ok (.bipush 13, 2) := by decide +kernel
theorem dX12_fill_106 : decode cX12_fill 106 = .ok (.iload 5, 2) := by decide +kernel
theorem dX12_fill_108 : decode cX12_fill 108 = .ok (.imul, 1) := by decide +kernel
theorem dX12_fill_109 : decode cX12_fill 109 = .ok (.iload 6, 2) := by decide +kernel
theorem dX12_fill_111 : decode cX12_fill 111 = .ok (.iadd, 1) := by decide +kernel
theorem dX12_fill_112 : decode cX12_fill 112 = .ok (.lconst 0, 1) := by decide +kernel
theorem dX12_fill_113 : decode cX12_fill 113 = .ok (.lastore, 1) := by decide +kernel
theorem dX12_fill_114 : decode cX12_fill 114 = .ok (.aload_n 0, 1) := by decide +kernel
theorem dX12_fill_115 : decode cX12_fill 115 = .ok (.getfield 24, 3) := by decide +kernel
theorem dX12_fill_118 : decode cX12_fill 118 = .ok (.bipush 13, 2) := by decide +kernel
theorem dX12_fill_120 : decode cX12_fill 120 = .ok (.iload 5, 2) := by decide +kernel
theorem dX12_fill_122 : decode cX12_fill 122 = .ok (.imul, 1) := by decide +kernel
theorem dX12_fill_123 : decode cX12_fill 123 = .ok (.iload 6, 2) := by decide +kernel
theorem dX12_fill_125 : decode cX12_fill 125 = .ok (.iadd, 1) := by decide +kernel
theorem dX12_fill_126 : decode cX12_fill 126 = .ok (.lconst 1, 1) := by decide +kernel
theorem dX12_fill_127 : decode cX12_fill 127 = .ok (.lastore, 1) := by decide +kernel
theorem dX12_fill_128 : decode cX12_fill 128 = .ok (.goto 16, 3) := by decide +kernel
theorem dX12_fill_131 : decode cX12_fill 131 = .ok (.iload 7, 2) := by decide +kernel
theorem dX12_fill_133 : decode cX12_fill 133 = .ok (.ifCond .eq 11, 3) := by decide +kernel
theorem dX12_fill_136 : decode cX12_fill 136 = .ok (.aload_n 0, 1) := by decide +kernel
theorem dX12_fill_137 : decode cX12_fill 137 = .ok (.iload 5, 2) := by decide +kernel
theorem dX12_fill_139 : decode cX12_fill 139 = .ok (.iload 6, 2) := by decide +kernel
theorem dX12_fill_141 : decode cX12_fill 141 = .ok (.invokevirtual 143, 3) := by decide +kernel
theorem dX12_fill_144 : decode cX12_fill 144 = .ok (.iinc 6 1, 3) := by decide +kernel
theorem dX12_fill_147 : decode cX12_fill 147 = .ok (.goto (-104), 3) := by decide +kernel
theorem dX12_fill_150 : decode cX12_fill 150 = .ok (.iinc 5 (-1), 3) := by decide +kernel
theorem dX12_fill_153 : decode cX12_fill 153 = .ok (.goto (-128), 3) := by decide +kernel
theorem dX12_fill_156 : decode cX12_fill 156 = .ok (.return_, 1) := by decide +kernel
theorem dX12_begun_0 : decode cX12_begun 0 = .ok (.bipush 12, 2) := by decide +kernel
theorem dX12_begun_2 : decode cX12_begun 2 = .ok (.ireturn, 1) := by decide +kernel
set_option maxRecDepth 20000 in
set_option maxRecDepth 100000 in
theorem ggX12_least_X12_fill : GoodIn wsX12_least wsX12_fill := goodIn_r _ [8, 9, 10, 11, 1, 12, 13, 14, 15, 7, 16, 17, 18, 19, 20, 21, 22, 23, 24, 25, 26, 27, 28, 29, 30, 31, 32, 33, 34, 35, 36, 37, 38, 39, 40, 2, 41, 42, 43, 44, 45, 46, 47, 48, 49, 50, 51, 52, 53, 54, 55, 56, 57, 58, 59, 60, 61, 62, 63, 64, 65, 69, 70, 71, 72, 73, 74, 75, 76, 77, 78, 79, 80, 81, 82, 83, 84, 85, 86] rfl (by decide +kernel)
set_option maxRecDepth 20000 in
theorem gX12_least_X12_fill : GoodIn wsX12_least (wsV RX12 146 RX12 yX12_fill wsX12_fill) := goodIn_app (goodIn_of _ (by decide +kernel)) ggX12_least_X12_fill
set_option maxRecDepth 20000 in
set_option maxRecDepth 100000 in
theorem ggX12_least_X12_begun : GoodIn wsX12_least wsX12_begun := goodIn_r _ [68] rfl (by decide +kernel)
set_option maxRecDepth 20000 in
theorem gX12_least_X12_begun : GoodIn wsX12_least (va_wsS RX12 150 yX12_begun wsX12_begun) := goodIn_app (goodIn_of _ (by decide +kernel)) ggX12_least_X12_begun
theorem dX12_least_0 : decode cX12_least 0 = .ok (.aload_n 0, 1) := by decide +kernel
theorem dX12_least_1 : decode cX12_least 1 = .ok (.iconst 1, 1) := by decide +kernel
theorem dX12_least_2 : decode cX12_least 2 = .ok (.iconst (-1), 1) := by decide +kernel
theorem dX12_least_3 : decode cX12_least 3 = .ok (.iconst (-1), 1) := by decide +kernel
theorem dX12_least_4 : decode cX12_least 4 = .ok (.invokevirtual 146, 3) := by decide +kernel
theorem dX12_least_7 : decode cX12_least 7 = .ok (.aload_n 0, 1) := by decide +kernel
theorem dX12_least_8 : decode cX12_least 8 = .ok (.getfield 20, 3) := by decide +kernel
theorem dX12_least_11 : decode cX12_least 11 = .ok (.invokestatic 150, 3) := by decide +kernel
theorem dX12_least_14 : decode cX12_least 14 = .ok (.laload, 1) := by decide +kernel
theorem dX12_least_15 : decode cX12_least 15 = .ok (.ldc2_w 131, 3) := by decide +kernel
theorem dX12_least_18 : decode cX12_least 18 = .ok (.lcmp, 1) := by decide +kernel
theorem dX12_least_19 : decode cX12_least 19 = .ok (.ifCond .lt 9, 3) := by decide +kernel
theorem dX12_least_22 : decode cX12_least 22 = .ok (.ldc2_w 112, 3) := by decide +kernel
theorem dX12_least_25 : decode cX12_least 25 = .ok (.goto 11, 3) := by decide +kernel
theorem dX12_least_28 : decode cX12_least 28 = .ok (.aload_n 0, 1) := by decide +kernel
theorem dX12_least_29 : decode cX12_least 29 = .ok (.getfield 20, 3) := by decide +kernel
theorem dX12_least_32 : decode cX12_least 32 = .ok (.invokestatic 150, 3) := by decide +kernel
theorem dX12_least_35 : decode cX12_least 35 = .ok (.laload, 1) := by decide +kernel
theorem dX12_least_36 : decode cX12_least 36 = .ok (.lreturn, 1) := by decide +kernel
set_option maxRecDepth 20000 in
set_option maxRecDepth 100000 in
theorem ggX12_many_X12_fill : GoodIn wsX12_many wsX12_fill := goodIn_r _ [6, 7, 8, 9, 10, 1, 11, 12, 13, 5, 14, 15, 16, 17, 18, 19, 20, 21, 22, 23, 24, 25, 26, 27, 28, 29, 30, 31, 32, 33, 34, 35, 36, 37, 38, 39, 40, 41, 42, 43, 44, 45, 46, 47, 48, 49, 50, 51, 52, 53, 54, 55, 56, 57, 58, 59, 60, 61, 62, 63, 64, 68, 69, 70, 71, 72, 73, 74, 75, 76, 77, 78, 79, 80, 81, 82, 83, 84, 85] rfl (by decide +kernel)
set_option maxRecDepth 20000 in
theorem gX12_many_X12_fill : GoodIn wsX12_many (wsV RX12 146 RX12 yX12_fill wsX12_fill) := goodIn_app (goodIn_of _ (by decide +kernel)) ggX12_many_X12_fill
set_option maxRecDepth 20000 in
set_option maxRecDepth 100000 in
theorem ggX12_many_X12_begun : GoodIn wsX12_many wsX12_begun := goodIn_r _ [67] rfl (by decide +kernel)
set_option maxRecDepth 20000 in
theorem gX12_many_X12_begun : GoodIn wsX12_many (va_wsS RX12 150 yX12_begun wsX12_begun) := goodIn_app (goodIn_of _ (by decide +kernel)) ggX12_many_X12_begun
theorem dX12_many_0 : decode cX12_many 0 = .ok (.aload_n 0, 1) := by decide +kernel
theorem dX12_many_1 : decode cX12_many 1 = .ok (.iconst 1, 1) := by decide +kernel
theorem dX12_many_2 : decode cX12_many 2 = .ok (.iconst (-1), 1) := by decide +kernel
theorem dX12_many_3 : decode cX12_many 3 = .ok (.iconst (-1), 1) := by decide +kernel
theorem dX12_many_4 : decode cX12_many 4 = .ok (.invokevirtual 146, 3) := by decide +kernel
theorem dX12_many_7 : decode cX12_many 7 = .ok (.aload_n 0, 1) := by decide +kernel
theorem dX12_many_8 : decode cX12_many 8 = .ok (.getfield 24, 3) := by decide +kernel
theorem dX12_many_11 : decode cX12_many 11 = .ok (.invokestatic 150, 3) := by decide +kernel
theorem dX12_many_14 : decode cX12_many 14 = .ok (.laload, 1) := by decide +kernel
theorem dX12_many_15 : decode cX12_many 15 = .ok (.lreturn, 1) := by decide +kernel
set_option maxRecDepth 20000 in
set_option maxRecDepth 100000 in
theorem ggX12_loose_X12_fill : GoodIn wsX12_loose wsX12_fill := goodIn_r _ [6, 7, 8, 9, 1, 10, 11, 12, 13, 5, 14, 15, 16, 17, 18, 19, 20, 21, 22, 23, 24, 25, 26, 27, 28, 29, 30, 31, 32, 33, 34, 35, 36, 37, 38, 39, 40, 41, 42, 43, 44, 45, 46, 47, 48, 49, 50, 51, 52, 53, 54, 55, 56, 57, 58, 59, 60, 61, 62, 63, 64, 68, 69, 70, 71, 72, 73, 74, 75, 76, 77, 78, 79, 80, 81, 82, 83, 84, 85] rfl (by decide +kernel)
set_option maxRecDepth 20000 in
theorem gX12_loose_X12_fill : GoodIn wsX12_loose (wsV RX12 146 RX12 yX12_fill wsX12_fill) := goodIn_app (goodIn_of _ (by decide +kernel)) ggX12_loose_X12_fill
set_option maxRecDepth 20000 in
set_option maxRecDepth 100000 in
theorem ggX12_loose_X12_begun : GoodIn wsX12_loose wsX12_begun := goodIn_r _ [67] rfl (by decide +kernel)
set_option maxRecDepth 20000 in
theorem gX12_loose_X12_begun : GoodIn wsX12_loose (va_wsS RX12 150 yX12_begun wsX12_begun) := goodIn_app (goodIn_of _ (by decide +kernel)) ggX12_loose_X12_begun
theorem dX12_loose_0 : decode cX12_loose 0 = .ok (.aload_n 0, 1) := by decide +kernel
theorem dX12_loose_1 : decode cX12_loose 1 = .ok (.iconst 0, 1) := by decide +kernel
theorem dX12_loose_2 : decode cX12_loose 2 = .ok (.iconst (-1), 1) := by decide +kernel
theorem dX12_loose_3 : decode cX12_loose 3 = .ok (.iconst (-1), 1) := by decide +kernel
theorem dX12_loose_4 : decode cX12_loose 4 = .ok (.invokevirtual 146, 3) := by decide +kernel
theorem dX12_loose_7 : decode cX12_loose 7 = .ok (.aload_n 0, 1) := by decide +kernel
theorem dX12_loose_8 : decode cX12_loose 8 = .ok (.getfield 20, 3) := by decide +kernel
theorem dX12_loose_11 : decode cX12_loose 11 = .ok (.invokestatic 150, 3) := by decide +kernel
theorem dX12_loose_14 : decode cX12_loose 14 = .ok (.laload, 1) := by decide +kernel
theorem dX12_loose_15 : decode cX12_loose 15 = .ok (.lreturn, 1) := by decide +kernel
set_option maxRecDepth 20000 in
set_option maxRecDepth 100000 in
theorem ggX12_isBest_X12_mayCome : GoodIn wsX12_isBest wsX12_mayCome := goodIn_r _ [7, 8, 9, 10, 11, 12, 13, 6, 14, 15, 16, 17, 18, 19, 20, 21, 22, 23, 24, 25, 26, 27, 28, 29, 30, 31, 32, 33, 34, 35, 36, 37, 38, 39, 40, 41, 42, 43, 52, 53, 54, 55, 56, 57, 58, 59, 60, 61, 62, 63, 64, 65, 66, 67, 68, 69] rfl (by decide +kernel)
set_option maxRecDepth 20000 in
theorem gX12_isBest_X12_mayCome : GoodIn wsX12_isBest (wsV RX12 133 RX12 yX12_mayCome wsX12_mayCome) := goodIn_app (goodIn_of _ (by decide +kernel)) ggX12_isBest_X12_mayCome
set_option maxRecDepth 20000 in
set_option maxRecDepth 100000 in
theorem ggX12_isBest_X12_cost : GoodIn wsX12_isBest wsX12_cost := goodIn_r _ [47, 48, 49, 50, 6, 51, 15, 52, 53, 54, 55, 56, 57, 58, 59, 60, 61, 62, 63, 64, 65, 66, 67, 68, 69] rfl (by decide +kernel)
set_option maxRecDepth 20000 in
theorem gX12_isBest_X12_cost : GoodIn wsX12_isBest (wsV RX12 136 RX12 yX12_cost wsX12_cost) := goodIn_app (goodIn_of _ (by decide +kernel)) ggX12_isBest_X12_cost
theorem dX12_isBest_0 : decode cX12_isBest 0 = .ok (.bipush 13, 2) := by decide +kernel
theorem dX12_isBest_2 : decode cX12_isBest 2 = .ok (.iload_n 2, 1) := by decide +kernel
theorem dX12_isBest_3 : decode cX12_isBest 3 = .ok (.iconst 1, 1) := by decide +kernel
theorem dX12_isBest_4 : decode cX12_isBest 4 = .ok (.iload_n 1, 1) := by decide +kernel
theorem dX12_isBest_5 : decode cX12_isBest 5 = .ok (.ishl, 1) := by decide +kernel
theorem dX12_isBest_6 : decode cX12_isBest 6 = .ok (.ior, 1) := by decide +kernel
theorem dX12_isBest_7 : decode cX12_isBest 7 = .ok (.imul, 1) := by decide +kernel
theorem dX12_isBest_8 : decode cX12_isBest 8 = .ok (.iload_n 1, 1) := by decide +kernel
theorem dX12_isBest_9 : decode cX12_isBest 9 = .ok (.iadd, 1) := by decide +kernel
theorem dX12_isBest_10 : decode cX12_isBest 10 = .ok (.istore 4, 2) := by decide +kernel
theorem dX12_isBest_12 : decode cX12_isBest 12 = .ok (.aload_n 0, 1) := by decide +kernel
theorem dX12_isBest_13 : decode cX12_isBest 13 = .ok (.iload_n 1, 1) := by decide +kernel
theorem dX12_isBest_14 : decode cX12_isBest 14 = .ok (.iload_n 2, 1) := by decide +kernel
theorem dX12_isBest_15 : decode cX12_isBest 15 = .ok (.iload_n 3, 1) := by decide +kernel
theorem dX12_isBest_16 : decode cX12_isBest 16 = .ok (.invokevirtual 133, 3) := by decide +kernel
theorem dX12_isBest_19 : decode cX12_isBest 19 = .ok (.ifCond .eq 50, 3) := by decide +kernel
theorem dX12_isBest_22 : decode cX12_isBest 22 = .ok (.aload_n 0, 1) := by decide +kernel
theorem dX12_isBest_23 : decode cX12_isBest 23 = .ok (.getfield 20, 3) := by decide +kernel
theorem dX12_isBest_26 : decode cX12_isBest 26 = .ok (.iload 4, 2) := by decide +kernel
theorem dX12_isBest_28 : decode cX12_isBest 28 = .ok (.laload, 1) := by decide +kernel
theorem dX12_isBest_29 : decode cX12_isBest 29 = .ok (.ldc2_w 131, 3) := by decide +kernel
theorem dX12_isBest_32 : decode cX12_isBest 32 = .ok (.lcmp, 1) := by decide +kernel
theorem dX12_isBest_33 : decode cX12_isBest 33 = .ok (.ifCond .ge 36, 3) := by decide +kernel
theorem dX12_isBest_36 : decode cX12_isBest 36 = .ok (.aload_n 0, 1) := by decide +kernel
theorem dX12_isBest_37 : decode cX12_isBest 37 = .ok (.iload_n 1, 1) := by decide +kernel
theorem dX12_isBest_38 : decode cX12_isBest 38 = .ok (.iload_n 2, 1) := by decide +kernel
theorem dX12_isBest_39 : decode cX12_isBest 39 = .ok (.invokevirtual 136, 3) := by decide +kernel
theorem dX12_isBest_42 : decode cX12_isBest 42 = .ok (.aload_n 0, 1) := by decide +kernel
theorem dX12_isBest_43 : decode cX12_isBest 43 = .ok (.getfield 20, 3) := by decide +kernel
theorem dX12_isBest_46 : decode cX12_isBest 46 = .ok (.iload 4, 2) := by decide +kernel
theorem dX12_isBest_48 : decode cX12_isBest 48 = .ok (.laload, 1) := by decide +kernel
theorem dX12_isBest_49 : decode cX12_isBest 49 = .ok (.ladd, 1) := by decide +kernel
theorem dX12_isBest_50 : decode cX12_isBest 50 = .ok (.aload_n 0, 1) := by decide +kernel
theorem dX12_isBest_51 : decode cX12_isBest 51 = .ok (.getfield 20, 3) := by decide +kernel
theorem dX12_isBest_54 : decode cX12_isBest 54 = .ok (.bipush 13, 2) := by decide +kernel
theorem dX12_isBest_56 : decode cX12_isBest 56 = .ok (.iload_n 2, 1) := by decide +kernel
theorem dX12_isBest_57 : decode cX12_isBest 57 = .ok (.imul, 1) := by decide +kernel
theorem dX12_isBest_58 : decode cX12_isBest 58 = .ok (.iload_n 3, 1) := by decide +kernel
theorem dX12_isBest_59 : decode cX12_isBest 59 = .ok (.iadd, 1) := by decide +kernel
theorem dX12_isBest_60 : decode cX12_isBest 60 = .ok (.laload, 1) := by decide +kernel
theorem dX12_isBest_61 : decode cX12_isBest 61 = .ok (.lcmp, 1) := by decide +kernel
theorem dX12_isBest_62 : decode cX12_isBest 62 = .ok (.ifCond .ne 7, 3) := by decide +kernel
theorem dX12_isBest_65 : decode cX12_isBest 65 = .ok (.iconst 1, 1) := by decide +kernel
theorem dX12_isBest_66 : decode cX12_isBest 66 = .ok (.goto 4, 3) := by decide +kernel
theorem dX12_isBest_69 : decode cX12_isBest 69 = .ok (.iconst 0, 1) := by decide +kernel
theorem dX12_isBest_70 : decode cX12_isBest 70 = .ok (.ireturn, 1) := by decide +kernel
set_option maxRecDepth 20000 in
set_option maxRecDepth 100000 in
theorem ggX12_best_X12_fill : GoodIn wsX12_best wsX12_fill := goodIn_r _ [10, 11, 12, 13, 14, 2, 15, 16, 17, 9, 18, 19, 20, 21, 22, 23, 24, 25, 26, 27, 28, 29, 30, 31, 32, 33, 34, 35, 36, 37, 38, 39, 40, 41, 42, 43, 44, 45, 46, 47, 48, 49, 50, 51, 52, 53, 54, 55, 56, 57, 58, 59, 60, 61, 62, 63, 64, 65, 66, 67, 68, 76, 77, 78, 79, 80, 81, 82, 83, 84, 85, 86, 87, 88, 89, 90, 91, 92, 93] rfl (by decide +kernel)
set_option maxRecDepth 20000 in
theorem gX12_best_X12_fill : GoodIn wsX12_best (wsV RX12 146 RX12 yX12_fill wsX12_fill) := goodIn_app (goodIn_of _ (by decide +kernel)) ggX12_best_X12_fill
set_option maxRecDepth 20000 in
set_option maxRecDepth 100000 in
theorem ggX12_best_X12_begun : GoodIn wsX12_best wsX12_begun := goodIn_r _ [71] rfl (by decide +kernel)
set_option maxRecDepth 20000 in
theorem gX12_best_X12_begun : GoodIn wsX12_best (va_wsS RX12 150 yX12_begun wsX12_begun) := goodIn_app (goodIn_of _ (by decide +kernel)) ggX12_best_X12_begun
set_option maxRecDepth 20000 in
set_option maxRecDepth 100000 in
theorem ggX12_best_X12_counting : GoodIn wsX12_best wsX12_counting := goodIn_r _ [18, 19, 20, 21, 9, 22, 23, 24, 25, 26, 27, 28, 29, 30, 31, 32, 33, 34, 35, 36, 37, 38, 76, 77, 78, 79, 80, 81, 82, 83, 84, 85, 86, 87, 88, 89, 90, 91, 92, 93] rfl (by decide +kernel)
set_option maxRecDepth 20000 in
theorem gX12_best_X12_counting : GoodIn wsX12_best (wsV RX12 140 RX12 yX12_counting wsX12_counting) := goodIn_app (goodIn_of _ (by decide +kernel)) ggX12_best_X12_counting
set_option maxRecDepth 20000 in
set_option maxRecDepth 100000 in
theorem ggX12_best_X12_isBest : GoodIn wsX12_best wsX12_isBest := goodIn_r _ [75, 14, 43, 44, 45, 46, 9, 47, 13, 12, 11, 24, 25, 26, 27, 23, 28, 29, 30, 31, 19, 20, 21, 22, 32, 33, 34, 35, 36, 37, 38, 48, 49, 50, 51, 52, 53, 54, 55, 56, 57, 58, 59, 60, 61, 62, 63, 64, 65, 66, 67, 68, 76, 77, 78, 79, 80, 81, 82, 83, 84, 85, 86, 87, 88, 89, 90, 91, 92, 93] rfl (by decide +kernel)
set_option maxRecDepth 20000 in
theorem gX12_best_X12_isBest : GoodIn wsX12_best (wsV RX12 156 RX12 yX12_isBest wsX12_isBest) := goodIn_app (goodIn_of _ (by decide +kernel)) ggX12_best_X12_isBest
theorem dX12_best_0 : decode cX12_best 0 = .ok (.lload_n 1, 1) := by decide +kernel
theorem dX12_best_1 : decode cX12_best 1 = .ok (.lconst 0, 1) := by decide +kernel
theorem dX12_best_2 : decode cX12_best 2 = .ok (.lcmp, 1) := by decide +kernel
theorem dX12_best_3 : decode cX12_best 3 = .ok (.ifCond .ge 7, 3) := by decide +kernel
theorem dX12_best_6 : decode cX12_best 6 = .ok (.ldc2_w 72, 3) := by decide +kernel
theorem dX12_best_9 : decode cX12_best 9 = .ok (.lreturn, 1) := by decide +kernel
theorem dX12_best_10 : decode cX12_best 10 = .ok (.aload_n 0, 1) := by decide +kernel
theorem dX12_best_11 : decode cX12_best 11 = .ok (.iconst 1, 1) := by decide +kernel
theorem dX12_best_12 : decode cX12_best 12 = .ok (.iconst (-1), 1) := by decide +kernel
theorem dX12_best_13 : decode cX12_best 13 = .ok (.iconst (-1), 1) := by decide +kernel
theorem dX12_best_14 : decode cX12_best 14 = .ok (.invokevirtual 146, 3) := by decide +kernel
theorem dX12_best_17 : decode cX12_best 17 = .ok (.lload_n 1, 1) := by decide +kernel
theorem dX12_best_18 : decode cX12_best 18 = .ok (.aload_n 0, 1) := by decide +kernel
theorem dX12_best_19 : decode cX12_best 19 = .ok (.getfield 24, 3) := by decide +kernel
theorem dX12_best_22 : decode cX12_best 22 = .ok (.invokestatic 150, 3) := by decide +kernel
theorem dX12_best_25 : decode cX12_best 25 = .ok (.laload, 1) := by decide +kernel
theorem dX12_best_26 : decode cX12_best 26 = .ok (.lcmp, 1) := by decide +kernel
theorem dX12_best_27 : decode cX12_best 27 = .ok (.ifCond .lt 7, 3) := by decide +kernel
theorem dX12_best_30 : decode cX12_best 30 = .ok (.ldc2_w 112, 3) := by decide +kernel
theorem dX12_best_33 : decode cX12_best 33 = .ok (.lreturn, 1) := by decide +kernel
theorem dX12_best_34 : decode cX12_best 34 = .ok (.iconst 0, 1) := by decide +kernel
theorem dX12_best_35 : decode cX12_best 35 = .ok (.istore_n 3, 1) := by decide +kernel
theorem dX12_best_36 : decode cX12_best 36 = .ok (.bipush 12, 2) := by decide +kernel
theorem dX12_best_38 : decode cX12_best 38 = .ok (.istore 4, 2) := by decide +kernel
theorem dX12_best_40 : decode cX12_best 40 = .ok (.lload_n 1, 1) := by decide +kernel
theorem dX12_best_41 : decode cX12_best 41 = .ok (.lstore 5, 2) := by decide +kernel
theorem dX12_best_43 : decode cX12_best 43 = .ok (.aload_n 0, 1) := by decide +kernel
theorem dX12_best_44 : decode cX12_best 44 = .ok (.iconst 0, 1) := by decide +kernel
theorem dX12_best_45 : decode cX12_best 45 = .ok (.putfield 153, 3) := by decide +kernel
theorem dX12_best_48 : decode cX12_best 48 = .ok (.iload_n 3, 1) := by decide +kernel
theorem dX12_best_49 : decode cX12_best 49 = .ok (.aload_n 0, 1) := by decide +kernel
theorem dX12_best_50 : decode cX12_best 50 = .ok (.invokevirtual 140, 3) := by decide +kernel
theorem dX12_best_53 : decode cX12_best 53 = .ok (.if_icmp .eq 120, 3) := by decide +kernel
theorem dX12_best_56 : decode cX12_best 56 = .ok (.iconst 0, 1) := by decide +kernel
theorem dX12_best_57 : decode cX12_best 57 = .ok (.istore 7, 2) := by decide +kernel
theorem dX12_best_59 : decode cX12_best 59 = .ok (.aload_n 0, 1) := by decide +kernel
theorem dX12_best_60 : decode cX12_best 60 = .ok (.iload 7, 2) := by decide +kernel
theorem dX12_best_62 : decode cX12_best 62 = .ok (.iload_n 3, 1) := by decide +kernel
theorem dX12_best_63 : decode cX12_best 63 = .ok (.iload 4, 2) := by decide +kernel
theorem dX12_best_65 : decode cX12_best 65 = .ok (.invokevirtual 156, 3) := by decide +kernel
theorem dX12_best_68 : decode cX12_best 68 = .ok (.ifCond .eq 26, 3) := by decide +kernel
theorem dX12_best_71 : decode cX12_best 71 = .ok (.lload 5, 2) := by decide +kernel
theorem dX12_best_73 : decode cX12_best 73 = .ok (.aload_n 0, 1) := by decide +kernel
theorem dX12_best_74 : decode cX12_best 74 = .ok (.getfield 24, 3) := by decide +kernel
theorem dX12_best_77 : decode cX12_best 77 = .ok (.bipush 13, 2) := by decide +kernel
theorem dX12_best_79 : decode cX12_best 79 = .ok (.iload_n 3, 1) := by decide +kernel
theorem dX12_best_80 : decode cX12_best 80 = .ok (.iconst 1, 1) := by decide +kernel
theorem dX12_best_81 : decode cX12_best 81 = .ok (.iload 7, 2) := by decide +kernel
theorem dX12_best_83 : decode cX12_best 83 = .ok (.ishl, 1) := by decide +kernel
theorem dX12_best_84 : decode cX12_best 84 = .ok (.ior, 1) := by decide +kernel
theorem dX12_best_85 : decode cX12_best 85 = .ok (.imul, 1) := by decide +kernel
theorem dX12_best_86 : decode cX12_best 86 = .ok (.iload 7, 2) := by decide +kernel
theorem dX12_best_88 : decode cX12_best 88 = .ok (.iadd, 1) := by decide +kernel
theorem dX12_best_89 : decode cX12_best 89 = .ok (.laload, 1) := by decide +kernel
theorem dX12_best_90 : decode cX12_best 90 = .ok (.lcmp, 1) := by decide +kernel
theorem dX12_best_91 : decode cX12_best 91 = .ok (.ifCond .lt 47, 3) := by decide +kernel
theorem dX12_best_94 : decode cX12_best 94 = .ok (.lload 5, 2) := by decide +kernel
theorem dX12_best_96 : decode cX12_best 96 = .ok (.aload_n 0, 1) := by decide +kernel
theorem dX12_best_97 : decode cX12_best 97 = .ok (.iload 7, 2) := by decide +kernel
theorem dX12_best_99 : decode cX12_best 99 = .ok (.iload_n 3, 1) := by decide +kernel
theorem dX12_best_100 : decode cX12_best 100 = .ok (.iload 4, 2) := by decide +kernel
theorem dX12_best_102 : decode cX12_best 102 = .ok (.invokevirtual 156, 3) := by decide +kernel
theorem dX12_best_105 : decode cX12_best 105 = .ok (.ifCond .eq 23, 3) := by decide +kernel
theorem dX12_best_108 : decode cX12_best 108 = .ok (.aload_n 0, 1) := by decide +kernel
theorem dX12_best_109 : decode cX12_best 109 = .ok (.getfield 24, 3) := by decide +kernel
theorem dX12_best_112 : decode cX12_best 112 = .ok (.bipush 13, 2) := by decide +kernel
theorem dX12_best_114 : decode cX12_best 114 = .ok (.iload_n 3, 1) := by decide +kernel
theorem dX12_best_115 : decode cX12_best 115 = .ok (.iconst 1, 1) := by decide +kernel
theorem dX12_best_116 : decode cX12_best 116 = .ok (.iload 7, 2) := by decide +kernel
theorem dX12_best_118 : decode cX12_best 118 = .ok (.ishl, 1) := by decide +kernel
theorem dX12_best_119 : decode cX12_best 119 = .ok (.ior, 1) := by decide +kernel
theorem dX12_best_120 : decode cX12_best 120 = .ok (.imul, 1) := by decide +kernel
theorem dX12_best_121 : decode cX12_best 121 = .ok (.iload 7, 2) := by decide +kernel
theorem dX12_best_123 : decode cX12_best 123 = .ok (.iadd, 1) := by decide +kernel
theorem dX12_best_124 : decode cX12_best 124 = .ok (.laload, 1) := by decide +kernel
theorem dX12_best_125 : decode cX12_best 125 = .ok (.goto 4, 3) := by decide +kernel
theorem dX12_best_128 : decode cX12_best 128 = .ok (.lconst 0, 1) := by decide +kernel
theorem dX12_best_129 : decode cX12_best 129 = .ok (.lsub, 1) := by decide +kernel
theorem dX12_best_130 : decode cX12_best 130 = .ok (.lstore 5, 2) := by decide +kernel
theorem dX12_best_132 : decode cX12_best 132 = .ok (.iinc 7 1, 3) := by decide +kernel
theorem dX12_best_135 : decode cX12_best 135 = .ok (.goto (-76), 3) := by decide +kernel
theorem dX12_best_138 : decode cX12_best 138 = .ok (.aload_n 0, 1) := by decide +kernel
theorem dX12_best_139 : decode cX12_best 139 = .ok (.getfield 16, 3) := by decide +kernel
theorem dX12_best_142 : decode cX12_best 142 = .ok (.aload_n 0, 1) := by decide +kernel
theorem dX12_best_143 : decode cX12_best 143 = .ok (.getfield 153, 3) := by decide +kernel
theorem dX12_best_146 : decode cX12_best 146 = .ok (.iload 7, 2) := by decide +kernel
theorem dX12_best_148 : decode cX12_best 148 = .ok (.iastore, 1) := by decide +kernel
theorem dX12_best_149 : decode cX12_best 149 = .ok (.aload_n 0, 1) := by decide +kernel
theorem dX12_best_150 : decode cX12_best 150 = .ok (.dup, 1) := by decide +kernel
theorem dX12_best_151 : decode cX12_best 151 = .ok (.getfield 153, 3) := by decide +kernel
theorem dX12_best_154 : decode cX12_best 154 = .ok (.iconst 1, 1) := by decide +kernel
theorem dX12_best_155 : decode cX12_best 155 = .ok (.iadd, 1) := by decide +kernel
theorem dX12_best_156 : decode cX12_best 156 = .ok (.putfield 153, 3) := by decide +kernel
theorem dX12_best_159 : decode cX12_best 159 = .ok (.iload_n 3, 1) := by decide +kernel
theorem dX12_best_160 : decode cX12_best 160 = .ok (.iconst 1, 1) := by decide +kernel
theorem dX12_best_161 : decode cX12_best 161 = .ok (.iload 7, 2) := by decide +kernel
theorem dX12_best_163 : decode cX12_best 163 = .ok (.ishl, 1) := by decide +kernel
theorem dX12_best_164 : decode cX12_best 164 = .ok (.ior, 1) := by decide +kernel
theorem dX12_best_165 : decode cX12_best 165 = .ok (.istore_n 3, 1) := by decide +kernel
theorem dX12_best_166 : decode cX12_best 166 = .ok (.iload 7, 2) := by decide +kernel
theorem dX12_best_168 : decode cX12_best 168 = .ok (.istore 4, 2) := by decide +kernel
theorem dX12_best_170 : decode cX12_best 170 = .ok (.goto (-122), 3) := by decide +kernel
theorem dX12_best_173 : decode cX12_best 173 = .ok (.aload_n 0, 1) := by decide +kernel
theorem dX12_best_174 : decode cX12_best 174 = .ok (.getfield 153, 3) := by decide +kernel
theorem dX12_best_177 : decode cX12_best 177 = .ok (.i2l, 1) := by decide +kernel
theorem dX12_best_178 : decode cX12_best 178 = .ok (.lreturn, 1) := by decide +kernel
set_option maxRecDepth 20000 in
set_option maxRecDepth 100000 in
theorem ggX12_isWhole_X12_counting : GoodIn wsX12_isWhole wsX12_counting := goodIn_r _ [7, 8, 9, 10, 6, 11, 12, 13, 14, 15, 16, 17, 18, 19, 20, 21, 22, 23, 24, 25, 26, 27, 28, 29, 30, 31, 32, 33, 34, 35, 36, 37, 38, 39, 40, 41, 42, 43, 44, 45] rfl (by decide +kernel)
set_option maxRecDepth 20000 in
theorem gX12_isWhole_X12_counting : GoodIn wsX12_isWhole (wsV RX12 140 RX12 yX12_counting wsX12_counting) := goodIn_app (goodIn_of _ (by decide +kernel)) ggX12_isWhole_X12_counting
theorem dX12_isWhole_0 : decode cX12_isWhole 0 = .ok (.iconst 0, 1) := by decide +kernel
theorem dX12_isWhole_1 : decode cX12_isWhole 1 = .ok (.istore_n 1, 1) := by decide +kernel
theorem dX12_isWhole_2 : decode cX12_isWhole 2 = .ok (.iconst 0, 1) := by decide +kernel
theorem dX12_isWhole_3 : decode cX12_isWhole 3 = .ok (.istore_n 2, 1) := by decide +kernel
theorem dX12_isWhole_4 : decode cX12_isWhole 4 = .ok (.iload_n 2, 1) := by decide +kernel
theorem dX12_isWhole_5 : decode cX12_isWhole 5 = .ok (.aload_n 0, 1) := by decide +kernel
theorem dX12_isWhole_6 : decode cX12_isWhole 6 = .ok (.getfield 153, 3) := by decide +kernel
theorem dX12_isWhole_9 : decode cX12_isWhole 9 = .ok (.if_icmp .ge 20, 3) := by decide +kernel
theorem dX12_isWhole_12 : decode cX12_isWhole 12 = .ok (.iload_n 1, 1) := by decide +kernel
theorem dX12_isWhole_13 : decode cX12_isWhole 13 = .ok (.iconst 1, 1) := by decide +kernel
theorem dX12_isWhole_14 : decode cX12_isWhole 14 = .ok (.aload_n 0, 1) := by decide +kernel
theorem dX12_isWhole_15 : decode cX12_isWhole 15 = .ok (.getfield 16, 3) := by decide +kernel
theorem dX12_isWhole_18 : decode cX12_isWhole 18 = .ok (.iload_n 2, 1) := by decide +kernel
theorem dX12_isWhole_19 : decode cX12_isWhole 19 = .ok (.iaload, 1) := by decide +kernel
theorem dX12_isWhole_20 : decode cX12_isWhole 20 = .ok (.ishl, 1) := by decide +kernel
theorem dX12_isWhole_21 : decode cX12_isWhole 21 = .ok (.ior, 1) := by decide +kernel
theorem dX12_isWhole_22 : decode cX12_isWhole 22 = .ok (.istore_n 1, 1) := by decide +kernel
theorem dX12_isWhole_23 : decode cX12_isWhole 23 = .ok (.iinc 2 1, 3) := by decide +kernel
theorem dX12_isWhole_26 : decode cX12_isWhole 26 = .ok (.goto (-22), 3) := by decide +kernel
theorem dX12_isWhole_29 : decode cX12_isWhole 29 = .ok (.iconst 0, 1) := by decide +kernel
theorem dX12_isWhole_30 : decode cX12_isWhole 30 = .ok (.istore_n 2, 1) := by decide +kernel
theorem dX12_isWhole_31 : decode cX12_isWhole 31 = .ok (.iconst 0, 1) := by decide +kernel
theorem dX12_isWhole_32 : decode cX12_isWhole 32 = .ok (.istore_n 3, 1) := by decide +kernel
theorem dX12_isWhole_33 : decode cX12_isWhole 33 = .ok (.iload_n 3, 1) := by decide +kernel
theorem dX12_isWhole_34 : decode cX12_isWhole 34 = .ok (.bipush 12, 2) := by decide +kernel
theorem dX12_isWhole_36 : decode cX12_isWhole 36 = .ok (.if_icmp .ge 17, 3) := by decide +kernel
theorem dX12_isWhole_39 : decode cX12_isWhole 39 = .ok (.iload_n 2, 1) := by decide +kernel
theorem dX12_isWhole_40 : decode cX12_isWhole 40 = .ok (.iload_n 1, 1) := by decide +kernel
theorem dX12_isWhole_41 : decode cX12_isWhole 41 = .ok (.iload_n 3, 1) := by decide +kernel
theorem dX12_isWhole_42 : decode cX12_isWhole 42 = .ok (.ishr, 1) := by decide +kernel
theorem dX12_isWhole_43 : decode cX12_isWhole 43 = .ok (.iconst 1, 1) := by decide +kernel
theorem dX12_isWhole_44 : decode cX12_isWhole 44 = .ok (.iand, 1) := by decide +kernel
theorem dX12_isWhole_45 : decode cX12_isWhole 45 = .ok (.iadd, 1) := by decide +kernel
theorem dX12_isWhole_46 : decode cX12_isWhole 46 = .ok (.istore_n 2, 1) := by decide +kernel
theorem dX12_isWhole_47 : decode cX12_isWhole 47 = .ok (.iinc 3 1, 3) := by decide +kernel
theorem dX12_isWhole_50 : decode cX12_isWhole 50 = .ok (.goto (-17), 3) := by decide +kernel
theorem dX12_isWhole_53 : decode cX12_isWhole 53 = .ok (.iload_n 2, 1) := by decide +kernel
theorem dX12_isWhole_54 : decode cX12_isWhole 54 = .ok (.aload_n 0, 1) := by decide +kernel
theorem dX12_isWhole_55 : decode cX12_isWhole 55 = .ok (.getfield 153, 3) := by decide +kernel
theorem dX12_isWhole_58 : decode cX12_isWhole 58 = .ok (.if_icmp .ne 15, 3) := by decide +kernel
theorem dX12_isWhole_61 : decode cX12_isWhole 61 = .ok (.iload_n 1, 1) := by decide +kernel
theorem dX12_isWhole_62 : decode cX12_isWhole 62 = .ok (.aload_n 0, 1) := by decide +kernel
theorem dX12_isWhole_63 : decode cX12_isWhole 63 = .ok (.invokevirtual 140, 3) := by decide +kernel
theorem dX12_isWhole_66 : decode cX12_isWhole 66 = .ok (.if_icmp .ne 7, 3) := by decide +kernel
theorem dX12_isWhole_69 : decode cX12_isWhole 69 = .ok (.iconst 1, 1) := by decide +kernel
theorem dX12_isWhole_70 : decode cX12_isWhole 70 = .ok (.goto 4, 3) := by decide +kernel
theorem dX12_isWhole_73 : decode cX12_isWhole 73 = .ok (.iconst 0, 1) := by decide +kernel
theorem dX12_isWhole_74 : decode cX12_isWhole 74 = .ok (.ireturn, 1) := by decide +kernel
set_option maxRecDepth 20000 in
set_option maxRecDepth 100000 in
theorem ggX12_number_X12_isWhole : GoodIn wsX12_number wsX12_isWhole := goodIn_r _ [12, 2, 3, 13, 14, 15, 11, 16, 17, 18, 19, 20, 21, 22, 23, 24, 25, 26, 27, 28, 29, 30, 31, 32, 33, 34, 35, 36, 80, 81, 82, 83, 84, 85, 86, 87, 88, 89, 90, 91, 92, 93, 94, 95, 96, 97] rfl (by decide +kernel)
set_option maxRecDepth 20000 in
theorem gX12_number_X12_isWhole : GoodIn wsX12_number (wsV RX12 159 RX12 yX12_isWhole wsX12_isWhole) := goodIn_app (goodIn_of _ (by decide +kernel)) ggX12_number_X12_isWhole
set_option maxRecDepth 20000 in
set_option maxRecDepth 100000 in
theorem ggX12_number_X12_fill : GoodIn wsX12_number wsX12_fill := goodIn_r _ [40, 41, 42, 43, 6, 5, 13, 14, 15, 11, 16, 17, 18, 19, 20, 21, 22, 23, 24, 25, 26, 27, 28, 29, 30, 31, 32, 33, 34, 35, 36, 44, 45, 46, 47, 7, 48, 49, 50, 51, 52, 53, 54, 55, 56, 57, 58, 59, 60, 61, 62, 63, 64, 65, 66, 67, 68, 69, 70, 71, 72, 80, 81, 82, 83, 84, 85, 86, 87, 88, 89, 90, 91, 92, 93, 94, 95, 96, 97] rfl (by decide +kernel)
set_option maxRecDepth 20000 in
theorem gX12_number_X12_fill : GoodIn wsX12_number (wsV RX12 146 RX12 yX12_fill wsX12_fill) := goodIn_app (goodIn_of _ (by decide +kernel)) ggX12_number_X12_fill
set_option maxRecDepth 20000 in
set_option maxRecDepth 100000 in
theorem ggX12_number_X12_isBest : GoodIn wsX12_number wsX12_isBest := goodIn_r _ [76, 6, 7, 48, 49, 50, 11, 51, 43, 42, 41, 22, 23, 24, 25, 21, 26, 27, 28, 29, 17, 18, 19, 20, 30, 31, 32, 33, 34, 35, 36, 52, 53, 54, 55, 56, 57, 58, 59, 60, 61, 62, 63, 64, 65, 66, 67, 68, 69, 70, 71, 72, 80, 81, 82, 83, 84, 85, 86, 87, 88, 89, 90, 91, 92, 93, 94, 95, 96, 97] rfl (by decide +kernel)
set_option maxRecDepth 20000 in
theorem gX12_number_X12_isBest : GoodIn wsX12_number (wsV RX12 156 RX12 yX12_isBest wsX12_isBest) := goodIn_app (goodIn_of _ (by decide +kernel)) ggX12_number_X12_isBest
set_option maxRecDepth 20000 in
set_option maxRecDepth 100000 in
theorem ggX12_number_X12_begun : GoodIn wsX12_number wsX12_begun := goodIn_r _ [79] rfl (by decide +kernel)
set_option maxRecDepth 20000 in
theorem gX12_number_X12_begun : GoodIn wsX12_number (va_wsS RX12 150 yX12_begun wsX12_begun) := goodIn_app (goodIn_of _ (by decide +kernel)) ggX12_number_X12_begun
