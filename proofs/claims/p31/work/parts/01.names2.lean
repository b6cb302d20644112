theorem dX0_init_0 : decode cX0_init 0 = .ok (.aload_n 0, 1) := by decide +kernel
theorem dX0_init_1 : decode cX0_init 1 = .ok (.invokespecial 3, 3) := by decide +kernel
theorem dX0_init_4 : decode cX0_init 4 = .ok (.aload_n 0, 1) := by decide +kernel
theorem dX0_init_5 : decode cX0_init 5 = .ok (.bipush 12, 2) := by decide +kernel
theorem dX0_init_7 : decode cX0_init 7 = .ok (.newarray .int, 2) := by decide +kernel
theorem dX0_init_9 : decode cX0_init 9 = .ok (.putfield 9, 3) := by decide +kernel
theorem dX0_init_12 : decode cX0_init 12 = .ok (.return_, 1) := by decide +kernel
theorem dX0_save_0 : decode cX0_save 0 = .ok (.aload_n 0, 1) := by decide +kernel
theorem dX0_save_1 : decode cX0_save 1 = .ok (.iload_n 2, 1) := by decide +kernel
theorem dX0_save_2 : decode cX0_save 2 = .ok (.putfield 15, 3) := by decide +kernel
theorem dX0_save_5 : decode cX0_save 5 = .ok (.aload_n 0, 1) := by decide +kernel
theorem dX0_save_6 : decode cX0_save 6 = .ok (.aload_n 1, 1) := by decide +kernel
theorem dX0_save_7 : decode cX0_save 7 = .ok (.getfield 19, 3) := by decide +kernel
theorem dX0_save_10 : decode cX0_save 10 = .ok (.iload_n 2, 1) := by decide +kernel
theorem dX0_save_11 : decode cX0_save 11 = .ok (.iaload, 1) := by decide +kernel
theorem dX0_save_12 : decode cX0_save 12 = .ok (.putfield 24, 3) := by decide +kernel
theorem dX0_save_15 : decode cX0_save 15 = .ok (.aload_n 0, 1) := by decide +kernel
theorem dX0_save_16 : decode cX0_save 16 = .ok (.aload_n 1, 1) := by decide +kernel
theorem dX0_save_17 : decode cX0_save 17 = .ok (.getfield 26, 3) := by decide +kernel
theorem dX0_save_20 : decode cX0_save 20 = .ok (.iload_n 2, 1) := by decide +kernel
theorem dX0_save_21 : decode cX0_save 21 = .ok (.iaload, 1) := by decide +kernel
theorem dX0_save_22 : decode cX0_save 22 = .ok (.putfield 29, 3) := by decide +kernel
theorem dX0_save_25 : decode cX0_save 25 = .ok (.aload_n 0, 1) := by decide +kernel
theorem dX0_save_26 : decode cX0_save 26 = .ok (.aload_n 1, 1) := by decide +kernel
theorem dX0_save_27 : decode cX0_save 27 = .ok (.getfield 31, 3) := by decide +kernel
theorem dX0_save_30 : decode cX0_save 30 = .ok (.iload_n 2, 1) := by decide +kernel
theorem dX0_save_31 : decode cX0_save 31 = .ok (.iaload, 1) := by decide +kernel
theorem dX0_save_32 : decode cX0_save 32 = .ok (.putfield 34, 3) := by decide +kernel
theorem dX0_save_35 : decode cX0_save 35 = .ok (.aload_n 1, 1) := by decide +kernel
theorem dX0_save_36 : decode cX0_save 36 = .ok (.getfield 36, 3) := by decide +kernel
theorem dX0_save_39 : decode cX0_save 39 = .ok (.iload_n 2, 1) := by decide +kernel
theorem dX0_save_40 : decode cX0_save 40 = .ok (.bipush 12, 2) := by decide +kernel
theorem dX0_save_42 : decode cX0_save 42 = .ok (.imul, 1) := by decide +kernel
theorem dX0_save_43 : decode cX0_save 43 = .ok (.aload_n 0, 1) := by decide +kernel
theorem dX0_save_44 : decode cX0_save 44 = .ok (.getfield 9, 3) := by decide +kernel
theorem dX0_save_47 : decode cX0_save 47 = .ok (.iconst 0, 1) := by decide +kernel
theorem dX0_save_48 : decode cX0_save 48 = .ok (.bipush 12, 2) := by decide +kernel
theorem dX0_save_50 : decode cX0_save 50 = .ok (.invokestatic 39, 3) := by decide +kernel
theorem dX0_save_53 : decode cX0_save 53 = .ok (.return_, 1) := by decide +kernel
theorem dX0_restore_0 : decode cX0_restore 0 = .ok (.aload_n 1, 1) := by decide +kernel
theorem dX0_restore_1 : decode cX0_restore 1 = .ok (.getfield 19, 3) := by decide +kernel
theorem dX0_restore_4 : decode cX0_restore 4 = .ok (.aload_n 0, 1) := by decide +kernel
theorem dX0_restore_5 : decode cX0_restore 5 = .ok (.getfield 15, 3) := by decide +kernel
theorem dX0_restore_8 : decode cX0_restore 8 = .ok (.aload_n 0, 1) := by decide +kernel
theorem dX0_restore_9 : decode cX0_restore 9 = .ok (.getfield 24, 3) := by decide +kernel
theorem dX0_restore_12 : decode cX0_restore 12 = .ok (.iastore, 1) := by decide +kernel
theorem dX0_restore_13 : decode cX0_restore 13 = .ok (.aload_n 1, 1) := by decide +kernel
theorem dX0_restore_14 : decode cX0_restore 14 = .ok (.getfield 26, 3) := by decide +kernel
theorem dX0_restore_17 : decode cX0_restore 17 = .ok (.aload_n 0, 1) := by decide +kernel
theorem dX0_restore_18 : decode cX0_restore 18 = .ok (.getfield 15, 3) := by decide +kernel
theorem dX0_restore_21 : decode cX0_restore 21 = .ok (.aload_n 0, 1) := by decide +kernel
theorem dX0_restore_22 : decode cX0_restore 22 = .ok (.getfield 29, 3) := by decide +kernel
theorem dX0_restore_25 : decode cX0_restore 25 = .ok (.iastore, 1) := by decide +kernel
theorem dX0_restore_26 : decode cX0_restore 26 = .ok (.aload_n 1, 1) := by decide +kernel
theorem dX0_restore_27 : decode cX0_restore 27 = .ok (.getfield 31, 3) := by decide +kernel
theorem dX0_restore_30 : decode cX0_restore 30 = .ok (.aload_n 0, 1) := by decide +kernel
theorem dX0_restore_31 : decode cX0_restore 31 = .ok (.getfield 15, 3) := by decide +kernel
theorem dX0_restore_34 : decode cX0_restore 34 = .ok (.aload_n 0, 1) := by decide +kernel
theorem dX0_restore_35 : decode cX0_restore 35 = .ok (.getfield 34, 3) := by decide +kernel
theorem dX0_restore_38 : decode cX0_restore 38 = .ok (.iastore, 1) := by decide +kernel
theorem dX0_restore_39 : decode cX0_restore 39 = .ok (.aload_n 0, 1) := by decide +kernel
theorem dX0_restore_40 : decode cX0_restore 40 = .ok (.getfield 9, 3) := by decide +kernel
theorem dX0_restore_43 : decode cX0_restore 43 = .ok (.iconst 0, 1) := by decide +kernel
theorem dX0_restore_44 : decode cX0_restore 44 = .ok (.aload_n 1, 1) := by decide +kernel
theorem dX0_restore_45 : decode cX0_restore 45 = .ok (.getfield 36, 3) := by decide +kernel
theorem dX0_restore_48 : decode cX0_restore 48 = .ok (.aload_n 0, 1) := by decide +kernel
theorem dX0_restore_49 : decode cX0_restore 49 = .ok (.getfield 15, 3) := by decide +kernel
theorem dX0_restore_52 : decode cX0_restore 52 = .ok (.bipush 12, 2) := by decide +kernel
theorem dX0_restore_54 : decode cX0_restore 54 = .ok (.imul, 1) := by decide +kernel
theorem dX0_restore_55 : decode cX0_restore 55 = .ok (.bipush 12, 2) := by decide +kernel
theorem dX0_restore_57 : decode cX0_restore 57 = .ok (.invokestatic 39, 3) := by decide +kernel
theorem dX0_restore_60 : decode cX0_restore 60 = .ok (.return_, 1) := by decide +kernel
set_option maxRecDepth 20000 in
set_option maxRecDepth 100000 in
theorem ggX1_init_X0_init : GoodIn wsX1_init wsX0_init := goodIn_r _ [9, 10, 2, 3, 11, 12, 16, 17, 18, 19, 20, 21] rfl (by decide +kernel)
set_option maxRecDepth 20000 in
theorem gX1_init_X0_init_n17 : GoodIn wsX1_init (wsX0_init) := ggX1_init_X0_init
theorem dX1_init_0 : decode cX1_init 0 = .ok (.aload_n 0, 1) := by decide +kernel
theorem dX1_init_1 : decode cX1_init 1 = .ok (.invokespecial 3, 3) := by decide +kernel
theorem dX1_init_4 : decode cX1_init 4 = .ok (.aload_n 0, 1) := by decide +kernel
theorem dX1_init_5 : decode cX1_init 5 = .ok (.bipush 8, 2) := by decide +kernel
theorem dX1_init_7 : decode cX1_init 7 = .ok (.anewarray 9, 3) := by decide +kernel
theorem dX1_init_10 : decode cX1_init 10 = .ok (.putfield 11, 3) := by decide +kernel
theorem dX1_init_13 : decode cX1_init 13 = .ok (.iconst 0, 1) := by decide +kernel
theorem dX1_init_14 : decode cX1_init 14 = .ok (.istore_n 1, 1) := by decide +kernel
theorem dX1_init_15 : decode cX1_init 15 = .ok (.iload_n 1, 1) := by decide +kernel
theorem dX1_init_16 : decode cX1_init 16 = .ok (.bipush 8, 2) := by decide +kernel
theorem dX1_init_18 : decode cX1_init 18 = .ok (.if_icmp .ge 22, 3) := by decide +kernel
theorem dX1_init_21 : decode cX1_init 21 = .ok (.aload_n 0, 1) := by decide +kernel
theorem dX1_init_22 : decode cX1_init 22 = .ok (.getfield 11, 3) := by decide +kernel
theorem dX1_init_25 : decode cX1_init 25 = .ok (.iload_n 1, 1) := by decide +kernel
theorem dX1_init_26 : decode cX1_init 26 = .ok (.new 9, 3) := by decide +kernel
theorem dX1_init_29 : decode cX1_init 29 = .ok (.dup, 1) := by decide +kernel
theorem dX1_init_30 : decode cX1_init 30 = .ok (.invokespecial 17, 3) := by decide +kernel
theorem dX1_init_33 : decode cX1_init 33 = .ok (.aastore, 1) := by decide +kernel
theorem dX1_init_34 : decode cX1_init 34 = .ok (.iinc 1 1, 3) := by decide +kernel
theorem dX1_init_37 : decode cX1_init 37 = .ok (.goto (-22), 3) := by decide +kernel
theorem dX1_init_40 : decode cX1_init 40 = .ok (.return_, 1) := by decide +kernel
set_option maxRecDepth 20000 in
set_option maxRecDepth 100000 in
theorem ggX1_keepNewHen_X1_step : GoodIn wsX1_keepNewHen wsX1_step := goodIn_r _ [8, 9, 2, 10, 11, 12, 13, 14, 24, 25, 26, 27, 28, 29, 30, 15, 16, 17] rfl (by decide +kernel)
set_option maxRecDepth 20000 in
theorem gX1_keepNewHen_X1_step : GoodIn wsX1_keepNewHen (wsV RX1 26 RX1 yX1_step wsX1_step) := goodIn_app (goodIn_of _ (by decide +kernel)) ggX1_keepNewHen_X1_step
theorem dX1_keepNewHen_0 : decode cX1_keepNewHen 0 = .ok (.aload_n 0, 1) := by decide +kernel
theorem dX1_keepNewHen_1 : decode cX1_keepNewHen 1 = .ok (.getfield 11, 3) := by decide +kernel
theorem dX1_keepNewHen_4 : decode cX1_keepNewHen 4 = .ok (.aload_n 0, 1) := by decide +kernel
theorem dX1_keepNewHen_5 : decode cX1_keepNewHen 5 = .ok (.getfield 18, 3) := by decide +kernel
theorem dX1_keepNewHen_8 : decode cX1_keepNewHen 8 = .ok (.aaload, 1) := by decide +kernel
theorem dX1_keepNewHen_9 : decode cX1_keepNewHen 9 = .ok (.iconst 1, 1) := by decide +kernel
theorem dX1_keepNewHen_10 : decode cX1_keepNewHen 10 = .ok (.putfield 22, 3) := by decide +kernel
theorem dX1_keepNewHen_13 : decode cX1_keepNewHen 13 = .ok (.aload_n 0, 1) := by decide +kernel
theorem dX1_keepNewHen_14 : decode cX1_keepNewHen 14 = .ok (.aload_n 1, 1) := by decide +kernel
theorem dX1_keepNewHen_15 : decode cX1_keepNewHen 15 = .ok (.invokevirtual 26, 3) := by decide +kernel
theorem dX1_keepNewHen_18 : decode cX1_keepNewHen 18 = .ok (.return_, 1) := by decide +kernel
set_option maxRecDepth 20000 in
set_option maxRecDepth 100000 in
theorem ggX1_keepHen_X0_save : GoodIn wsX1_keepHen wsX0_save := goodIn_r _ [8, 9, 10, 11, 12, 13, 14, 15, 16, 17, 18, 19, 20, 21, 36, 37, 38, 39, 40, 41, 42, 43, 44, 45, 46, 47, 48] rfl (by decide +kernel)
set_option maxRecDepth 20000 in
theorem gX1_keepHen_X0_save : GoodIn wsX1_keepHen (wsV RX1 30 RX0 yX0_save wsX0_save) := goodIn_app (goodIn_of _ (by decide +kernel)) ggX1_keepHen_X0_save
set_option maxRecDepth 20000 in
set_option maxRecDepth 100000 in
theorem ggX1_keepHen_X1_step : GoodIn wsX1_keepHen wsX1_step := goodIn_r _ [26, 27, 2, 28, 29, 30, 31, 32, 42, 43, 44, 45, 46, 47, 48, 33, 34, 35] rfl (by decide +kernel)
set_option maxRecDepth 20000 in
theorem gX1_keepHen_X1_step : GoodIn wsX1_keepHen (wsV RX1 26 RX1 yX1_step wsX1_step) := goodIn_app (goodIn_of _ (by decide +kernel)) ggX1_keepHen_X1_step
theorem dX1_keepHen_0 : decode cX1_keepHen 0 = .ok (.aload_n 0, 1) := by decide +kernel
theorem dX1_keepHen_1 : decode cX1_keepHen 1 = .ok (.getfield 11, 3) := by decide +kernel
theorem dX1_keepHen_4 : decode cX1_keepHen 4 = .ok (.aload_n 0, 1) := by decide +kernel
theorem dX1_keepHen_5 : decode cX1_keepHen 5 = .ok (.getfield 18, 3) := by decide +kernel
theorem dX1_keepHen_8 : decode cX1_keepHen 8 = .ok (.aaload, 1) := by decide +kernel
theorem dX1_keepHen_9 : decode cX1_keepHen 9 = .ok (.iconst 0, 1) := by decide +kernel
theorem dX1_keepHen_10 : decode cX1_keepHen 10 = .ok (.putfield 22, 3) := by decide +kernel
theorem dX1_keepHen_13 : decode cX1_keepHen 13 = .ok (.aload_n 0, 1) := by decide +kernel
theorem dX1_keepHen_14 : decode cX1_keepHen 14 = .ok (.getfield 11, 3) := by decide +kernel
theorem dX1_keepHen_17 : decode cX1_keepHen 17 = .ok (.aload_n 0, 1) := by decide +kernel
theorem dX1_keepHen_18 : decode cX1_keepHen 18 = .ok (.getfield 18, 3) := by decide +kernel
theorem dX1_keepHen_21 : decode cX1_keepHen 21 = .ok (.aaload, 1) := by decide +kernel
theorem dX1_keepHen_22 : decode cX1_keepHen 22 = .ok (.aload_n 1, 1) := by decide +kernel
theorem dX1_keepHen_23 : decode cX1_keepHen 23 = .ok (.iload_n 2, 1) := by decide +kernel
theorem dX1_keepHen_24 : decode cX1_keepHen 24 = .ok (.invokevirtual 30, 3) := by decide +kernel
theorem dX1_keepHen_27 : decode cX1_keepHen 27 = .ok (.aload_n 0, 1) := by decide +kernel
theorem dX1_keepHen_28 : decode cX1_keepHen 28 = .ok (.aload_n 1, 1) := by decide +kernel
theorem dX1_keepHen_29 : decode cX1_keepHen 29 = .ok (.invokevirtual 26, 3) := by decide +kernel
theorem dX1_keepHen_32 : decode cX1_keepHen 32 = .ok (.return_, 1) := by decide +kernel
theorem dX1_step_0 : decode cX1_step 0 = .ok (.aload_n 1, 1) := by decide +kernel
theorem dX1_step_1 : decode cX1_step 1 = .ok (.dup, 1) := by decide +kernel
theorem dX1_step_2 : decode cX1_step 2 = .ok (.getfield 34, 3) := by decide +kernel
theorem dX1_step_5 : decode cX1_step 5 = .ok (.iconst 1, 1) := by decide +kernel
theorem dX1_step_6 : decode cX1_step 6 = .ok (.iadd, 1) := by decide +kernel
theorem dX1_step_7 : decode cX1_step 7 = .ok (.putfield 34, 3) := by decide +kernel
theorem dX1_step_10 : decode cX1_step 10 = .ok (.aload_n 0, 1) := by decide +kernel
theorem dX1_step_11 : decode cX1_step 11 = .ok (.aload_n 0, 1) := by decide +kernel
theorem dX1_step_12 : decode cX1_step 12 = .ok (.getfield 18, 3) := by decide +kernel
theorem dX1_step_15 : decode cX1_step 15 = .ok (.iconst 1, 1) := by decide +kernel
theorem dX1_step_16 : decode cX1_step 16 = .ok (.iadd, 1) := by decide +kernel
theorem dX1_step_17 : decode cX1_step 17 = .ok (.bipush 8, 2) := by decide +kernel
theorem dX1_step_19 : decode cX1_step 19 = .ok (.irem, 1) := by decide +kernel
theorem dX1_step_20 : decode cX1_step 20 = .ok (.putfield 18, 3) := by decide +kernel
theorem dX1_step_23 : decode cX1_step 23 = .ok (.aload_n 0, 1) := by decide +kernel
theorem dX1_step_24 : decode cX1_step 24 = .ok (.aload_n 0, 1) := by decide +kernel
theorem dX1_step_25 : decode cX1_step 25 = .ok (.getfield 39, 3) := by decide +kernel
theorem dX1_step_28 : decode cX1_step 28 = .ok (.iconst 1, 1) := by decide +kernel
theorem dX1_step_29 : decode cX1_step 29 = .ok (.iadd, 1) := by decide +kernel
theorem dX1_step_30 : decode cX1_step 30 = .ok (.bipush 8, 2) := by decide +kernel
theorem dX1_step_32 : decode cX1_step 32 = .ok (.invokestatic 42, 3) := by decide +kernel
theorem dX1_step_35 : decode cX1_step 35 = .ok (.putfield 39, 3) := by decide +kernel
theorem dX1_step_38 : decode cX1_step 38 = .ok (.return_, 1) := by decide +kernel
set_option maxRecDepth 20000 in
set_option maxRecDepth 100000 in
theorem ggX1_takeBack_X0_restore : GoodIn wsX1_takeBack wsX0_restore := goodIn_r _ [11, 12, 13, 14, 15, 16, 17, 18, 19, 20, 21, 22, 23, 24, 25, 26, 27, 28, 29, 30, 31, 35, 36, 37, 38, 39, 40] rfl (by decide +kernel)
set_option maxRecDepth 20000 in
theorem gX1_takeBack_X0_restore : GoodIn wsX1_takeBack (wsV RX1 51 RX0 yX0_restore wsX0_restore) := goodIn_app (goodIn_of _ (by decide +kernel)) ggX1_takeBack_X0_restore
theorem dX1_takeBack_0 : decode cX1_takeBack 0 = .ok (.aload_n 1, 1) := by decide +kernel
theorem dX1_takeBack_1 : decode cX1_takeBack 1 = .ok (.dup, 1) := by decide +kernel
theorem dX1_takeBack_2 : decode cX1_takeBack 2 = .ok (.getfield 34, 3) := by decide +kernel
theorem dX1_takeBack_5 : decode cX1_takeBack 5 = .ok (.iconst 1, 1) := by decide +kernel
theorem dX1_takeBack_6 : decode cX1_takeBack 6 = .ok (.iadd, 1) := by decide +kernel
theorem dX1_takeBack_7 : decode cX1_takeBack 7 = .ok (.putfield 34, 3) := by decide +kernel
theorem dX1_takeBack_10 : decode cX1_takeBack 10 = .ok (.aload_n 0, 1) := by decide +kernel
theorem dX1_takeBack_11 : decode cX1_takeBack 11 = .ok (.aload_n 0, 1) := by decide +kernel
theorem dX1_takeBack_12 : decode cX1_takeBack 12 = .ok (.getfield 18, 3) := by decide +kernel
theorem dX1_takeBack_15 : decode cX1_takeBack 15 = .ok (.bipush 8, 2) := by decide +kernel
theorem dX1_takeBack_17 : decode cX1_takeBack 17 = .ok (.iadd, 1) := by decide +kernel
theorem dX1_takeBack_18 : decode cX1_takeBack 18 = .ok (.iconst 1, 1) := by decide +kernel
theorem dX1_takeBack_19 : decode cX1_takeBack 19 = .ok (.isub, 1) := by decide +kernel
theorem dX1_takeBack_20 : decode cX1_takeBack 20 = .ok (.bipush 8, 2) := by decide +kernel
theorem dX1_takeBack_22 : decode cX1_takeBack 22 = .ok (.irem, 1) := by decide +kernel
theorem dX1_takeBack_23 : decode cX1_takeBack 23 = .ok (.putfield 18, 3) := by decide +kernel
theorem dX1_takeBack_26 : decode cX1_takeBack 26 = .ok (.aload_n 0, 1) := by decide +kernel
theorem dX1_takeBack_27 : decode cX1_takeBack 27 = .ok (.dup, 1) := by decide +kernel
theorem dX1_takeBack_28 : decode cX1_takeBack 28 = .ok (.getfield 39, 3) := by decide +kernel
theorem dX1_takeBack_31 : decode cX1_takeBack 31 = .ok (.iconst 1, 1) := by decide +kernel
theorem dX1_takeBack_32 : decode cX1_takeBack 32 = .ok (.isub, 1) := by decide +kernel
theorem dX1_takeBack_33 : decode cX1_takeBack 33 = .ok (.putfield 39, 3) := by decide +kernel
theorem dX1_takeBack_36 : decode cX1_takeBack 36 = .ok (.aload_n 0, 1) := by decide +kernel
theorem dX1_takeBack_37 : decode cX1_takeBack 37 = .ok (.getfield 11, 3) := by decide +kernel
theorem dX1_takeBack_40 : decode cX1_takeBack 40 = .ok (.aload_n 0, 1) := by decide +kernel
theorem dX1_takeBack_41 : decode cX1_takeBack 41 = .ok (.getfield 18, 3) := by decide +kernel
theorem dX1_takeBack_44 : decode cX1_takeBack 44 = .ok (.aaload, 1) := by decide +kernel
theorem dX1_takeBack_45 : decode cX1_takeBack 45 = .ok (.getfield 22, 3) := by decide +kernel
theorem dX1_takeBack_48 : decode cX1_takeBack 48 = .ok (.ifCond .eq 16, 3) := by decide +kernel
theorem dX1_takeBack_51 : decode cX1_takeBack 51 = .ok (.aload_n 1, 1) := by decide +kernel
theorem dX1_takeBack_52 : decode cX1_takeBack 52 = .ok (.dup, 1) := by decide +kernel
theorem dX1_takeBack_53 : decode cX1_takeBack 53 = .ok (.getfield 48, 3) := by decide +kernel
theorem dX1_takeBack_56 : decode cX1_takeBack 56 = .ok (.iconst 1, 1) := by decide +kernel
theorem dX1_takeBack_57 : decode cX1_takeBack 57 = .ok (.isub, 1) := by decide +kernel
theorem dX1_takeBack_58 : decode cX1_takeBack 58 = .ok (.putfield 48, 3) := by decide +kernel
theorem dX1_takeBack_61 : decode cX1_takeBack 61 = .ok (.goto 16, 3) := by decide +kernel
theorem dX1_takeBack_64 : decode cX1_takeBack 64 = .ok (.aload_n 0, 1) := by decide +kernel
theorem dX1_takeBack_65 : decode cX1_takeBack 65 = .ok (.getfield 11, 3) := by decide +kernel
theorem dX1_takeBack_68 : decode cX1_takeBack 68 = .ok (.aload_n 0, 1) := by decide +kernel
theorem dX1_takeBack_69 : decode cX1_takeBack 69 = .ok (.getfield 18, 3) := by decide +kernel
theorem dX1_takeBack_72 : decode cX1_takeBack 72 = .ok (.aaload, 1) := by decide +kernel
theorem dX1_takeBack_73 : decode cX1_takeBack 73 = .ok (.aload_n 1, 1) := by decide +kernel
theorem dX1_takeBack_74 : decode cX1_takeBack 74 = .ok (.invokevirtual 51, 3) := by decide +kernel
theorem dX1_takeBack_77 : decode cX1_takeBack 77 = .ok (.return_, 1) := by decide +kernel
theorem dX2_init_0 : decode cX2_init 0 = .ok (.aload_n 0, 1) := by decide +kernel
theorem dX2_init_1 : decode cX2_init 1 = .ok (.invokespecial 3, 3) := by decide +kernel
theorem dX2_init_4 : decode cX2_init 4 = .ok (.aload_n 0, 1) := by decide +kernel
theorem dX2_init_5 : decode cX2_init 5 = .ok (.bipush 12, 2) := by decide +kernel
theorem dX2_init_7 : decode cX2_init 7 = .ok (.newarray .int, 2) := by decide +kernel
theorem dX2_init_9 : decode cX2_init 9 = .ok (.putfield 9, 3) := by decide +kernel
theorem dX2_init_12 : decode cX2_init 12 = .ok (.aload_n 0, 1) := by decide +kernel
theorem dX2_init_13 : decode cX2_init 13 = .ok (.bipush 12, 2) := by decide +kernel
theorem dX2_init_15 : decode cX2_init 15 = .ok (.newarray .int, 2) := by decide +kernel
theorem dX2_init_17 : decode cX2_init 17 = .ok (.putfield 15, 3) := by decide +kernel
theorem dX2_init_20 : decode cX2_init 20 = .ok (.aload_n 0, 1) := by decide +kernel
theorem dX2_init_21 : decode cX2_init 21 = .ok (.bipush 12, 2) := by decide +kernel
theorem dX2_init_23 : decode cX2_init 23 = .ok (.newarray .int, 2) := by decide +kernel
theorem dX2_init_25 : decode cX2_init 25 = .ok (.putfield 18, 3) := by decide +kernel
theorem dX2_init_28 : decode cX2_init 28 = .ok (.aload_n 0, 1) := by decide +kernel
theorem dX2_init_29 : decode cX2_init 29 = .ok (.bipush 12, 2) := by decide +kernel
theorem dX2_init_31 : decode cX2_init 31 = .ok (.newarray .int, 2) := by decide +kernel
theorem dX2_init_33 : decode cX2_init 33 = .ok (.putfield 21, 3) := by decide +kernel
theorem dX2_init_36 : decode cX2_init 36 = .ok (.aload_n 0, 1) := by decide +kernel
theorem dX2_init_37 : decode cX2_init 37 = .ok (.sipush 144, 3) := by decide +kernel
theorem dX2_init_40 : decode cX2_init 40 = .ok (.newarray .int, 2) := by decide +kernel
theorem dX2_init_42 : decode cX2_init 42 = .ok (.putfield 24, 3) := by decide +kernel
theorem dX2_init_45 : decode cX2_init 45 = .ok (.return_, 1) := by decide +kernel
theorem dX2_has_0 : decode cX2_has 0 = .ok (.iload_n 1, 1) := by decide +kernel
theorem dX2_has_1 : decode cX2_has 1 = .ok (.ifCond .lt 15, 3) := by decide +kernel
theorem dX2_has_4 : decode cX2_has 4 = .ok (.iload_n 1, 1) := by decide +kernel
theorem dX2_has_5 : decode cX2_has 5 = .ok (.aload_n 0, 1) := by decide +kernel
theorem dX2_has_6 : decode cX2_has 6 = .ok (.getfield 27, 3) := by decide +kernel
theorem dX2_has_9 : decode cX2_has 9 = .ok (.if_icmp .ge 7, 3) := by decide +kernel
theorem dX2_has_12 : decode cX2_has 12 = .ok (.iconst 1, 1) := by decide +kernel
theorem dX2_has_13 : decode cX2_has 13 = .ok (.goto 4, 3) := by decide +kernel
theorem dX2_has_16 : decode cX2_has 16 = .ok (.iconst 0, 1) := by decide +kernel
theorem dX2_has_17 : decode cX2_has 17 = .ok (.ireturn, 1) := by decide +kernel
set_option maxRecDepth 20000 in
set_option maxRecDepth 100000 in
theorem ggX2_isCounted_X2_has : GoodIn wsX2_isCounted wsX2_has := goodIn_r _ [7, 8, 9, 10, 11, 12, 13, 14, 15] rfl (by decide +kernel)
set_option maxRecDepth 20000 in
theorem gX2_isCounted_X2_has : GoodIn wsX2_isCounted (wsV RX2 31 RX2 yX2_has wsX2_has) := goodIn_app (goodIn_of _ (by decide +kernel)) ggX2_isCounted_X2_has
theorem dX2_isCounted_0 : decode cX2_isCounted 0 = .ok (.aload_n 0, 1) := by decide +kernel
theorem dX2_isCounted_1 : decode cX2_isCounted 1 = .ok (.iload_n 1, 1) := by decide +kernel
theorem dX2_isCounted_2 : decode cX2_isCounted 2 = .ok (.invokevirtual 31, 3) := by decide +kernel
theorem dX2_isCounted_5 : decode cX2_isCounted 5 = .ok (.ifCond .eq 27, 3) := by decide +kernel
theorem dX2_isCounted_8 : decode cX2_isCounted 8 = .ok (.aload_n 0, 1) := by decide +kernel
theorem dX2_isCounted_9 : decode cX2_isCounted 9 = .ok (.getfield 9, 3) := by decide +kernel
theorem dX2_isCounted_12 : decode cX2_isCounted 12 = .ok (.iload_n 1, 1) := by decide +kernel
theorem dX2_isCounted_13 : decode cX2_isCounted 13 = .ok (.iaload, 1) := by decide +kernel
theorem dX2_isCounted_14 : decode cX2_isCounted 14 = .ok (.iconst 4, 1) := by decide +kernel
theorem dX2_isCounted_15 : decode cX2_isCounted 15 = .ok (.if_icmp .ne 13, 3) := by decide +kernel
theorem dX2_isCounted_18 : decode cX2_isCounted 18 = .ok (.aload_n 0, 1) := by decide +kernel
theorem dX2_isCounted_19 : decode cX2_isCounted 19 = .ok (.getfield 18, 3) := by decide +kernel
theorem dX2_isCounted_22 : decode cX2_isCounted 22 = .ok (.iload_n 1, 1) := by decide +kernel
theorem dX2_isCounted_23 : decode cX2_isCounted 23 = .ok (.iaload, 1) := by decide +kernel
theorem dX2_isCounted_24 : decode cX2_isCounted 24 = .ok (.iconst 1, 1) := by decide +kernel
theorem dX2_isCounted_25 : decode cX2_isCounted 25 = .ok (.if_icmp .ne 7, 3) := by decide +kernel
theorem dX2_isCounted_28 : decode cX2_isCounted 28 = .ok (.iconst 1, 1) := by decide +kernel
theorem dX2_isCounted_29 : decode cX2_isCounted 29 = .ok (.goto 4, 3) := by decide +kernel
theorem dX2_isCounted_32 : decode cX2_isCounted 32 = .ok (.iconst 0, 1) := by decide +kernel
theorem dX2_isCounted_33 : decode cX2_isCounted 33 = .ok (.ireturn, 1) := by decide +kernel
set_option maxRecDepth 20000 in
set_option maxRecDepth 100000 in
theorem ggX2_addHen_X2_renewPen : GoodIn wsX2_addHen wsX2_renewPen := goodIn_r _ [9, 10, 11, 12, 13, 14, 15, 16, 17, 18] rfl (by decide +kernel)
set_option maxRecDepth 20000 in
theorem gX2_addHen_X2_renewPen : GoodIn wsX2_addHen (wsV RX2 35 RX2 yX2_renewPen wsX2_renewPen) := goodIn_app (goodIn_of _ (by decide +kernel)) ggX2_addHen_X2_renewPen
theorem dX2_addHen_0 : decode cX2_addHen 0 = .ok (.aload_n 0, 1) := by decide +kernel
theorem dX2_addHen_1 : decode cX2_addHen 1 = .ok (.getfield 9, 3) := by decide +kernel
theorem dX2_addHen_4 : decode cX2_addHen 4 = .ok (.aload_n 0, 1) := by decide +kernel
theorem dX2_addHen_5 : decode cX2_addHen 5 = .ok (.getfield 27, 3) := by decide +kernel
theorem dX2_addHen_8 : decode cX2_addHen 8 = .ok (.iload_n 1, 1) := by decide +kernel
theorem dX2_addHen_9 : decode cX2_addHen 9 = .ok (.iastore, 1) := by decide +kernel
theorem dX2_addHen_10 : decode cX2_addHen 10 = .ok (.aload_n 0, 1) := by decide +kernel
theorem dX2_addHen_11 : decode cX2_addHen 11 = .ok (.getfield 15, 3) := by decide +kernel
theorem dX2_addHen_14 : decode cX2_addHen 14 = .ok (.aload_n 0, 1) := by decide +kernel
theorem dX2_addHen_15 : decode cX2_addHen 15 = .ok (.getfield 27, 3) := by decide +kernel
theorem dX2_addHen_18 : decode cX2_addHen 18 = .ok (.iload_n 2, 1) := by decide +kernel
theorem dX2_addHen_19 : decode cX2_addHen 19 = .ok (.iastore, 1) := by decide +kernel
theorem dX2_addHen_20 : decode cX2_addHen 20 = .ok (.aload_n 0, 1) := by decide +kernel
theorem dX2_addHen_21 : decode cX2_addHen 21 = .ok (.getfield 18, 3) := by decide +kernel
theorem dX2_addHen_24 : decode cX2_addHen 24 = .ok (.aload_n 0, 1) := by decide +kernel
theorem dX2_addHen_25 : decode cX2_addHen 25 = .ok (.getfield 27, 3) := by decide +kernel
theorem dX2_addHen_28 : decode cX2_addHen 28 = .ok (.iconst 0, 1) := by decide +kernel
theorem dX2_addHen_29 : decode cX2_addHen 29 = .ok (.iastore, 1) := by decide +kernel
theorem dX2_addHen_30 : decode cX2_addHen 30 = .ok (.aload_n 0, 1) := by decide +kernel
theorem dX2_addHen_31 : decode cX2_addHen 31 = .ok (.aload_n 0, 1) := by decide +kernel
theorem dX2_addHen_32 : decode cX2_addHen 32 = .ok (.getfield 27, 3) := by decide +kernel
theorem dX2_addHen_35 : decode cX2_addHen 35 = .ok (.iconst (-1), 1) := by decide +kernel
theorem dX2_addHen_36 : decode cX2_addHen 36 = .ok (.invokevirtual 35, 3) := by decide +kernel
theorem dX2_addHen_39 : decode cX2_addHen 39 = .ok (.aload_n 0, 1) := by decide +kernel
theorem dX2_addHen_40 : decode cX2_addHen 40 = .ok (.dup, 1) := by decide +kernel
theorem dX2_addHen_41 : decode cX2_addHen 41 = .ok (.getfield 27, 3) := by decide +kernel
theorem dX2_addHen_44 : decode cX2_addHen 44 = .ok (.iconst 1, 1) := by decide +kernel
theorem dX2_addHen_45 : decode cX2_addHen 45 = .ok (.iadd, 1) := by decide +kernel
theorem dX2_addHen_46 : decode cX2_addHen 46 = .ok (.putfield 27, 3) := by decide +kernel
theorem dX2_addHen_49 : decode cX2_addHen 49 = .ok (.return_, 1) := by decide +kernel
theorem dX2_renewPen_0 : decode cX2_renewPen 0 = .ok (.aload_n 0, 1) := by decide +kernel
theorem dX2_renewPen_1 : decode cX2_renewPen 1 = .ok (.getfield 21, 3) := by decide +kernel
theorem dX2_renewPen_4 : decode cX2_renewPen 4 = .ok (.iload_n 1, 1) := by decide +kernel
theorem dX2_renewPen_5 : decode cX2_renewPen 5 = .ok (.iload_n 2, 1) := by decide +kernel
theorem dX2_renewPen_6 : decode cX2_renewPen 6 = .ok (.iastore, 1) := by decide +kernel
theorem dX2_renewPen_7 : decode cX2_renewPen 7 = .ok (.iconst 0, 1) := by decide +kernel
theorem dX2_renewPen_8 : decode cX2_renewPen 8 = .ok (.istore_n 3, 1) := by decide +kernel
theorem dX2_renewPen_9 : decode cX2_renewPen 9 = .ok (.iload_n 3, 1) := by decide +kernel
theorem dX2_renewPen_10 : decode cX2_renewPen 10 = .ok (.bipush 12, 2) := by decide +kernel
theorem dX2_renewPen_12 : decode cX2_renewPen 12 = .ok (.if_icmp .ge 21, 3) := by decide +kernel
theorem dX2_renewPen_15 : decode cX2_renewPen 15 = .ok (.aload_n 0, 1) := by decide +kernel
theorem dX2_renewPen_16 : decode cX2_renewPen 16 = .ok (.getfield 24, 3) := by decide +kernel
theorem dX2_renewPen_19 : decode cX2_renewPen 19 = .ok (.iload_n 1, 1) := by decide +kernel
theorem dX2_renewPen_20 : decode cX2_renewPen 20 = .ok (.bipush 12, 2) := by decide +kernel
theorem dX2_renewPen_22 : decode cX2_renewPen 22 = .ok (.imul, 1) := by decide +kernel
theorem dX2_renewPen_23 : decode cX2_renewPen 23 = .ok (.iload_n 3, 1) := by decide +kernel
theorem dX2_renewPen_24 : decode cX2_renewPen 24 = .ok (.iadd, 1) := by decide +kernel
theorem dX2_renewPen_25 : decode cX2_renewPen 25 = .ok (.iconst 0, 1) := by decide +kernel
theorem dX2_renewPen_26 : decode cX2_renewPen 26 = .ok (.iastore, 1) := by decide +kernel
theorem dX2_renewPen_27 : decode cX2_renewPen 27 = .ok (.iinc 3 1, 3) := by decide +kernel
theorem dX2_renewPen_30 : decode cX2_renewPen 30 = .ok (.goto (-21), 3) := by decide +kernel
theorem dX2_renewPen_33 : decode cX2_renewPen 33 = .ok (.return_, 1) := by decide +kernel
theorem dX2_mostWeight_0 : decode cX2_mostWeight 0 = .ok (.aload_n 0, 1) := by decide +kernel
theorem dX2_mostWeight_1 : decode cX2_mostWeight 1 = .ok (.getfield 21, 3) := by decide +kernel
theorem dX2_mostWeight_4 : decode cX2_mostWeight 4 = .ok (.iload_n 1, 1) := by decide +kernel
theorem dX2_mostWeight_5 : decode cX2_mostWeight 5 = .ok (.iaload, 1) := by decide +kernel
theorem dX2_mostWeight_6 : decode cX2_mostWeight 6 = .ok (.iconst (-1), 1) := by decide +kernel
theorem dX2_mostWeight_7 : decode cX2_mostWeight 7 = .ok (.if_icmp .ne 8, 3) := by decide +kernel
theorem dX2_mostWeight_10 : decode cX2_mostWeight 10 = .ok (.ldc 39, 2) := by decide +kernel
theorem dX2_mostWeight_12 : decode cX2_mostWeight 12 = .ok (.goto 13, 3) := by decide +kernel
theorem dX2_mostWeight_15 : decode cX2_mostWeight 15 = .ok (.getstatic 40, 3) := by decide +kernel
theorem dX2_mostWeight_18 : decode cX2_mostWeight 18 = .ok (.aload_n 0, 1) := by decide +kernel
theorem dX2_mostWeight_19 : decode cX2_mostWeight 19 = .ok (.getfield 21, 3) := by decide +kernel
theorem dX2_mostWeight_22 : decode cX2_mostWeight 22 = .ok (.iload_n 1, 1) := by decide +kernel
theorem dX2_mostWeight_23 : decode cX2_mostWeight 23 = .ok (.iaload, 1) := by decide +kernel
theorem dX2_mostWeight_24 : decode cX2_mostWeight 24 = .ok (.iaload, 1) := by decide +kernel
theorem dX2_mostWeight_25 : decode cX2_mostWeight 25 = .ok (.ireturn, 1) := by decide +kernel
theorem dX2_asksForSomebody_0 : decode cX2_asksForSomebody 0 = .ok (.aload_n 0, 1) := by decide +kernel
theorem dX2_asksForSomebody_1 : decode cX2_asksForSomebody 1 = .ok (.getfield 9, 3) := by decide +kernel
theorem dX2_asksForSomebody_4 : decode cX2_asksForSomebody 4 = .ok (.iload_n 1, 1) := by decide +kernel
theorem dX2_asksForSomebody_5 : decode cX2_asksForSomebody 5 = .ok (.iaload, 1) := by decide +kernel
theorem dX2_asksForSomebody_6 : decode cX2_asksForSomebody 6 = .ok (.ifCond .eq 28, 3) := by decide +kernel
theorem dX2_asksForSomebody_9 : decode cX2_asksForSomebody 9 = .ok (.aload_n 0, 1) := by decide +kernel
theorem dX2_asksForSomebody_10 : decode cX2_asksForSomebody 10 = .ok (.getfield 9, 3) := by decide +kernel
theorem dX2_asksForSomebody_13 : decode cX2_asksForSomebody 13 = .ok (.iload_n 1, 1) := by decide +kernel
theorem dX2_asksForSomebody_14 : decode cX2_asksForSomebody 14 = .ok (.iaload, 1) := by decide +kernel
theorem dX2_asksForSomebody_15 : decode cX2_asksForSomebody 15 = .ok (.iconst 4, 1) := by decide +kernel
theorem dX2_asksForSomebody_16 : decode cX2_asksForSomebody 16 = .ok (.if_icmp .eq 18, 3) := by decide +kernel
theorem dX2_asksForSomebody_19 : decode cX2_asksForSomebody 19 = .ok (.aload_n 0, 1) := by decide +kernel
theorem dX2_asksForSomebody_20 : decode cX2_asksForSomebody 20 = .ok (.getfield 15, 3) := by decide +kernel
theorem dX2_asksForSomebody_23 : decode cX2_asksForSomebody 23 = .ok (.iload_n 1, 1) := by decide +kernel
theorem dX2_asksForSomebody_24 : decode cX2_asksForSomebody 24 = .ok (.iaload, 1) := by decide +kernel
theorem dX2_asksForSomebody_25 : decode cX2_asksForSomebody 25 = .ok (.ldc 43, 2) := by decide +kernel
theorem dX2_asksForSomebody_27 : decode cX2_asksForSomebody 27 = .ok (.if_icmp .eq 7, 3) := by decide +kernel
theorem dX2_asksForSomebody_30 : decode cX2_asksForSomebody 30 = .ok (.iconst 1, 1) := by decide +kernel
theorem dX2_asksForSomebody_31 : decode cX2_asksForSomebody 31 = .ok (.goto 4, 3) := by decide +kernel
theorem dX2_asksForSomebody_34 : decode cX2_asksForSomebody 34 = .ok (.iconst 0, 1) := by decide +kernel
theorem dX2_asksForSomebody_35 : decode cX2_asksForSomebody 35 = .ok (.ireturn, 1) := by decide +kernel
theorem dX2_penCount_0 : decode cX2_penCount 0 = .ok (.iconst 0, 1) := by decide +kernel
theorem dX2_penCount_1 : decode cX2_penCount 1 = .ok (.istore_n 1, 1) := by decide +kernel
theorem dX2_penCount_2 : decode cX2_penCount 2 = .ok (.iconst 0, 1) := by decide +kernel
theorem dX2_penCount_3 : decode cX2_penCount 3 = .ok (.istore_n 2, 1) := by decide +kernel
theorem dX2_penCount_4 : decode cX2_penCount 4 = .ok (.iload_n 2, 1) := by decide +kernel
theorem dX2_penCount_5 : decode cX2_penCount 5 = .ok (.aload_n 0, 1) := by decide +kernel
theorem dX2_penCount_6 : decode cX2_penCount 6 = .ok (.getfield 27, 3) := by decide +kernel
theorem dX2_penCount_9 : decode cX2_penCount 9 = .ok (.if_icmp .ge 22, 3) := by decide +kernel
theorem dX2_penCount_12 : decode cX2_penCount 12 = .ok (.aload_n 0, 1) := by decide +kernel
theorem dX2_penCount_13 : decode cX2_penCount 13 = .ok (.getfield 21, 3) := by decide +kernel
theorem dX2_penCount_16 : decode cX2_penCount 16 = .ok (.iload_n 2, 1) := by decide +kernel
theorem dX2_penCount_17 : decode cX2_penCount 17 = .ok (.iaload, 1) := by decide +kernel
theorem dX2_penCount_18 : decode cX2_penCount 18 = .ok (.iconst (-1), 1) := by decide +kernel
theorem dX2_penCount_19 : decode cX2_penCount 19 = .ok (.if_icmp .eq 6, 3) := by decide +kernel
theorem dX2_penCount_22 : decode cX2_penCount 22 = .ok (.iinc 1 1, 3) := by decide +kernel
theorem dX2_penCount_25 : decode cX2_penCount 25 = .ok (.iinc 2 1, 3) := by decide +kernel
theorem dX2_penCount_28 : decode cX2_penCount 28 = .ok (.goto (-24), 3) := by decide +kernel
theorem dX2_penCount_31 : decode cX2_penCount 31 = .ok (.iload_n 1, 1) := by decide +kernel
theorem dX2_penCount_32 : decode cX2_penCount 32 = .ok (.ireturn, 1) := by decide +kernel
theorem dX3_init_0 : decode cX3_init 0 = .ok (.aload_n 0, 1) := by decide +kernel
theorem dX3_init_1 : decode cX3_init 1 = .ok (.invokespecial 3, 3) := by decide +kernel
theorem dX3_init_4 : decode cX3_init 4 = .ok (.aload_n 0, 1) := by decide +kernel
theorem dX3_init_5 : decode cX3_init 5 = .ok (.iconst (-1), 1) := by decide +kernel
theorem dX3_init_6 : decode cX3_init 6 = .ok (.putfield 9, 3) := by decide +kernel
theorem dX3_init_9 : decode cX3_init 9 = .ok (.aload_n 0, 1) := by decide +kernel
theorem dX3_init_10 : decode cX3_init 10 = .ok (.bipush 12, 2) := by decide +kernel
theorem dX3_init_12 : decode cX3_init 12 = .ok (.newarray .int, 2) := by decide +kernel
theorem dX3_init_14 : decode cX3_init 14 = .ok (.putfield 15, 3) := by decide +kernel
theorem dX3_init_17 : decode cX3_init 17 = .ok (.aload_n 0, 1) := by decide +kernel
theorem dX3_init_18 : decode cX3_init 18 = .ok (.bipush 12, 2) := by decide +kernel
theorem dX3_init_20 : decode cX3_init 20 = .ok (.newarray .int, 2) := by decide +kernel
theorem dX3_init_22 : decode cX3_init 22 = .ok (.putfield 19, 3) := by decide +kernel
theorem dX3_init_25 : decode cX3_init 25 = .ok (.aload_n 0, 1) := by decide +kernel
theorem dX3_init_26 : decode cX3_init 26 = .ok (.aload_n 1, 1) := by decide +kernel
theorem dX3_init_27 : decode cX3_init 27 = .ok (.putfield 22, 3) := by decide +kernel
theorem dX3_init_30 : decode cX3_init 30 = .ok (.return_, 1) := by decide +kernel
set_option maxRecDepth 20000 in
set_option maxRecDepth 100000 in
theorem ggX3_settle_X8_gather : GoodIn wsX3_settle wsX8_gather := goodIn_r _ [11, 12, 13, 14, 15, 16, 17, 18, 19, 20, 21, 22, 23, 24, 25, 26, 27, 28, 29, 30, 31, 32, 33, 34, 35, 36, 10, 37, 38, 39, 40, 41, 42, 43, 44, 45, 46, 47, 48, 49, 50, 51, 82, 83, 84, 85, 86, 87, 88, 89, 90, 91, 92, 93, 94, 95, 96, 97, 98] rfl (by decide +kernel)
set_option maxRecDepth 20000 in
theorem gX3_settle_X8_gather : GoodIn wsX3_settle (wsV RX3 26 RX8 yX8_gather wsX8_gather) := goodIn_app (goodIn_of _ (by decide +kernel)) ggX3_settle_X8_gather
set_option maxRecDepth 20000 in
set_option maxRecDepth 100000 in
theorem ggX3_settle_X3_followPecks : GoodIn wsX3_settle wsX3_followPecks := goodIn_r _ [56, 1, 5, 57, 58, 59, 60, 10, 61, 38, 62, 63, 64, 77, 78, 79, 80, 81, 82, 83, 84, 85, 86, 87, 88, 89, 90, 91] rfl (by decide +kernel)
set_option maxRecDepth 20000 in
theorem gX3_settle_X3_followPecks : GoodIn wsX3_settle (wsV RX3 34 RX3 yX3_followPecks wsX3_followPecks) := goodIn_app (goodIn_of _ (by decide +kernel)) ggX3_settle_X3_followPecks
set_option maxRecDepth 20000 in
set_option maxRecDepth 100000 in
theorem ggX3_settle_X8_all : GoodIn wsX3_settle wsX8_all := goodIn_r _ [68, 15, 82, 83, 84, 85, 86, 87, 88, 89, 90, 91] rfl (by decide +kernel)
set_option maxRecDepth 20000 in
theorem gX3_settle_X8_all : GoodIn wsX3_settle (wsV RX3 40 RX8 yX8_all wsX8_all) := goodIn_app (goodIn_of _ (by decide +kernel)) ggX3_settle_X8_all
set_option maxRecDepth 20000 in
set_option maxRecDepth 100000 in
theorem ggX3_settle_X3_nextGroup : GoodIn wsX3_settle wsX3_nextGroup := goodIn_r _ [72, 1, 5, 57, 62, 63, 64, 73, 74, 75, 55, 76, 77, 78, 79, 80, 81, 82, 83, 84, 85, 86, 87, 88, 89, 90, 91] rfl (by decide +kernel)
set_option maxRecDepth 20000 in
theorem gX3_settle_X3_nextGroup : GoodIn wsX3_settle (wsV RX3 45 RX3 yX3_nextGroup wsX3_nextGroup) := goodIn_app (goodIn_of _ (by decide +kernel)) ggX3_settle_X3_nextGroup
set_option maxRecDepth 20000 in
set_option maxRecDepth 100000 in
theorem ggX3_settle_X11_isIn : GoodIn wsX3_settle wsX11_isIn := goodIn_r _ [64] rfl (by decide +kernel)
set_option maxRecDepth 20000 in
theorem gX3_settle_X11_isIn_n49 : GoodIn wsX3_settle (wsX11_isIn) := ggX3_settle_X11_isIn
theorem dX3_settle_0 : decode cX3_settle 0 = .ok (.aload_n 0, 1) := by decide +kernel
theorem dX3_settle_1 : decode cX3_settle 1 = .ok (.getfield 22, 3) := by decide +kernel
theorem dX3_settle_4 : decode cX3_settle 4 = .ok (.invokevirtual 26, 3) := by decide +kernel
theorem dX3_settle_7 : decode cX3_settle 7 = .ok (.aload_n 0, 1) := by decide +kernel
theorem dX3_settle_8 : decode cX3_settle 8 = .ok (.getfield 9, 3) := by decide +kernel
theorem dX3_settle_11 : decode cX3_settle 11 = .ok (.aload_n 0, 1) := by decide +kernel
theorem dX3_settle_12 : decode cX3_settle 12 = .ok (.getfield 22, 3) := by decide +kernel
theorem dX3_settle_15 : decode cX3_settle 15 = .ok (.getfield 31, 3) := by decide +kernel
theorem dX3_settle_18 : decode cX3_settle 18 = .ok (.if_icmp .ne 4, 3) := by decide +kernel
theorem dX3_settle_21 : decode cX3_settle 21 = .ok (.return_, 1) := by decide +kernel
theorem dX3_settle_22 : decode cX3_settle 22 = .ok (.aload_n 0, 1) := by decide +kernel
theorem dX3_settle_23 : decode cX3_settle 23 = .ok (.aload_n 0, 1) := by decide +kernel
theorem dX3_settle_24 : decode cX3_settle 24 = .ok (.getfield 22, 3) := by decide +kernel
theorem dX3_settle_27 : decode cX3_settle 27 = .ok (.getfield 31, 3) := by decide +kernel
theorem dX3_settle_30 : decode cX3_settle 30 = .ok (.putfield 9, 3) := by decide +kernel
theorem dX3_settle_33 : decode cX3_settle 33 = .ok (.aload_n 0, 1) := by decide +kernel
theorem dX3_settle_34 : decode cX3_settle 34 = .ok (.invokevirtual 34, 3) := by decide +kernel
theorem dX3_settle_37 : decode cX3_settle 37 = .ok (.aload_n 0, 1) := by decide +kernel
theorem dX3_settle_38 : decode cX3_settle 38 = .ok (.iconst 0, 1) := by decide +kernel
theorem dX3_settle_39 : decode cX3_settle 39 = .ok (.putfield 37, 3) := by decide +kernel
theorem dX3_settle_42 : decode cX3_settle 42 = .ok (.aload_n 0, 1) := by decide +kernel
theorem dX3_settle_43 : decode cX3_settle 43 = .ok (.getfield 22, 3) := by decide +kernel
theorem dX3_settle_46 : decode cX3_settle 46 = .ok (.invokevirtual 40, 3) := by decide +kernel
theorem dX3_settle_49 : decode cX3_settle 49 = .ok (.istore_n 1, 1) := by decide +kernel
theorem dX3_settle_50 : decode cX3_settle 50 = .ok (.iconst 0, 1) := by decide +kernel
theorem dX3_settle_51 : decode cX3_settle 51 = .ok (.istore_n 2, 1) := by decide +kernel
theorem dX3_settle_52 : decode cX3_settle 52 = .ok (.iload_n 2, 1) := by decide +kernel
theorem dX3_settle_53 : decode cX3_settle 53 = .ok (.aload_n 0, 1) := by decide +kernel
theorem dX3_settle_54 : decode cX3_settle 54 = .ok (.getfield 22, 3) := by decide +kernel
theorem dX3_settle_57 : decode cX3_settle 57 = .ok (.getfield 44, 3) := by decide +kernel
theorem dX3_settle_60 : decode cX3_settle 60 = .ok (.if_icmp .ge 76, 3) := by decide +kernel
theorem dX3_settle_63 : decode cX3_settle 63 = .ok (.iload_n 1, 1) := by decide +kernel
theorem dX3_settle_64 : decode cX3_settle 64 = .ok (.ifCond .eq 72, 3) := by decide +kernel
theorem dX3_settle_67 : decode cX3_settle 67 = .ok (.aload_n 0, 1) := by decide +kernel
theorem dX3_settle_68 : decode cX3_settle 68 = .ok (.iload_n 1, 1) := by decide +kernel
theorem dX3_settle_69 : decode cX3_settle 69 = .ok (.invokevirtual 45, 3) := by decide +kernel
theorem dX3_settle_72 : decode cX3_settle 72 = .ok (.istore_n 3, 1) := by decide +kernel
theorem dX3_settle_73 : decode cX3_settle 73 = .ok (.iconst 0, 1) := by decide +kernel
theorem dX3_settle_74 : decode cX3_settle 74 = .ok (.istore 4, 2) := by decide +kernel
theorem dX3_settle_76 : decode cX3_settle 76 = .ok (.iload 4, 2) := by decide +kernel
theorem dX3_settle_78 : decode cX3_settle 78 = .ok (.aload_n 0, 1) := by decide +kernel
theorem dX3_settle_79 : decode cX3_settle 79 = .ok (.getfield 22, 3) := by decide +kernel
theorem dX3_settle_82 : decode cX3_settle 82 = .ok (.getfield 44, 3) := by decide +kernel
theorem dX3_settle_85 : decode cX3_settle 85 = .ok (.if_icmp .ge 29, 3) := by decide +kernel
theorem dX3_settle_88 : decode cX3_settle 88 = .ok (.iload_n 3, 1) := by decide +kernel
theorem dX3_settle_89 : decode cX3_settle 89 = .ok (.iload 4, 2) := by decide +kernel
theorem dX3_settle_91 : decode cX3_settle 91 = .ok (.invokestatic 49, 3) := by decide +kernel
theorem dX3_settle_94 : decode cX3_settle 94 = .ok (.ifCond .eq 14, 3) := by decide +kernel
theorem dX3_settle_97 : decode cX3_settle 97 = .ok (.aload_n 0, 1) := by decide +kernel
theorem dX3_settle_98 : decode cX3_settle 98 = .ok (.getfield 15, 3) := by decide +kernel
theorem dX3_settle_101 : decode cX3_settle 101 = .ok (.iload 4, 2) := by decide +kernel
theorem dX3_settle_103 : decode cX3_settle 103 = .ok (.aload_n 0, 1) := by decide +kernel
theorem dX3_settle_104 : decode cX3_settle 104 = .ok (.getfield 37, 3) := by decide +kernel
theorem dX3_settle_107 : decode cX3_settle 107 = .ok (.iastore, 1) := by decide +kernel
theorem dX3_settle_108 : decode cX3_settle 108 = .ok (.iinc 4 1, 3) := by decide +kernel
theorem dX3_settle_111 : decode cX3_settle 111 = .ok (.goto (-35), 3) := by decide +kernel
theorem dX3_settle_114 : decode cX3_settle 114 = .ok (.iload_n 1, 1) := by decide +kernel
theorem dX3_settle_115 : decode cX3_settle 115 = .ok (.iload_n 3, 1) := by decide +kernel
theorem dX3_settle_116 : decode cX3_settle 116 = .ok (.iconst (-1), 1) := by decide +kernel
theorem dX3_settle_117 : decode cX3_settle 117 = .ok (.ixor, 1) := by decide +kernel
theorem dX3_settle_118 : decode cX3_settle 118 = .ok (.iand, 1) := by decide +kernel
theorem dX3_settle_119 : decode cX3_settle 119 = .ok (.istore_n 1, 1) := by decide +kernel
theorem dX3_settle_120 : decode cX3_settle 120 = .ok (.aload_n 0, 1) := by decide +kernel
theorem dX3_settle_121 : decode cX3_settle 121 = .ok (.dup, 1) := by decide +kernel
theorem dX3_settle_122 : decode cX3_settle 122 = .ok (.getfield 37, 3) := by decide +kernel
theorem dX3_settle_125 : decode cX3_settle 125 = .ok (.iconst 1, 1) := by decide +kernel
theorem dX3_settle_126 : decode cX3_settle 126 = .ok (.iadd, 1) := by decide +kernel
theorem dX3_settle_127 : decode cX3_settle 127 = .ok (.putfield 37, 3) := by decide +kernel
theorem dX3_settle_130 : decode cX3_settle 130 = .ok (.iinc 2 1, 3) := by decide +kernel
theorem dX3_settle_133 : decode cX3_settle 133 = .ok (.goto (-81), 3) := by decide +kernel
theorem dX3_settle_136 : decode cX3_settle 136 = .ok (.return_, 1) := by decide +kernel
set_option maxRecDepth 20000 in
set_option maxRecDepth 100000 in
theorem ggX3_followPecks_X8_peckOf : GoodIn wsX3_followPecks wsX8_peckOf := goodIn_r _ [8, 9, 18, 19, 20, 21, 22, 23, 24, 25, 26, 27] rfl (by decide +kernel)
set_option maxRecDepth 20000 in
theorem gX3_followPecks_X8_peckOf : GoodIn wsX3_followPecks (wsV RX3 53 RX8 yX8_peckOf wsX8_peckOf) := goodIn_app (goodIn_of _ (by decide +kernel)) ggX3_followPecks_X8_peckOf
set_option maxRecDepth 20000 in
set_option maxRecDepth 100000 in
theorem ggX3_followPecks_X11_isIn : GoodIn wsX3_followPecks wsX11_isIn := goodIn_r _ [12] rfl (by decide +kernel)
set_option maxRecDepth 20000 in
theorem gX3_followPecks_X11_isIn_n49 : GoodIn wsX3_followPecks (wsX11_isIn) := ggX3_followPecks_X11_isIn
theorem dX3_followPecks_0 : decode cX3_followPecks 0 = .ok (.iconst 0, 1) := by decide +kernel
theorem dX3_followPecks_1 : decode cX3_followPecks 1 = .ok (.istore_n 1, 1) := by decide +kernel
theorem dX3_followPecks_2 : decode cX3_followPecks 2 = .ok (.iload_n 1, 1) := by decide +kernel
theorem dX3_followPecks_3 : decode cX3_followPecks 3 = .ok (.aload_n 0, 1) := by decide +kernel
theorem dX3_followPecks_4 : decode cX3_followPecks 4 = .ok (.getfield 22, 3) := by decide +kernel
theorem dX3_followPecks_7 : decode cX3_followPecks 7 = .ok (.getfield 44, 3) := by decide +kernel
theorem dX3_followPecks_10 : decode cX3_followPecks 10 = .ok (.if_icmp .ge 61, 3) := by decide +kernel
theorem dX3_followPecks_13 : decode cX3_followPecks 13 = .ok (.aload_n 0, 1) := by decide +kernel
theorem dX3_followPecks_14 : decode cX3_followPecks 14 = .ok (.getfield 19, 3) := by decide +kernel
theorem dX3_followPecks_17 : decode cX3_followPecks 17 = .ok (.iload_n 1, 1) := by decide +kernel
theorem dX3_followPecks_18 : decode cX3_followPecks 18 = .ok (.iconst 1, 1) := by decide +kernel
theorem dX3_followPecks_19 : decode cX3_followPecks 19 = .ok (.iload_n 1, 1) := by decide +kernel
theorem dX3_followPecks_20 : decode cX3_followPecks 20 = .ok (.ishl, 1) := by decide +kernel
theorem dX3_followPecks_21 : decode cX3_followPecks 21 = .ok (.iastore, 1) := by decide +kernel
theorem dX3_followPecks_22 : decode cX3_followPecks 22 = .ok (.iconst 0, 1) := by decide +kernel
theorem dX3_followPecks_23 : decode cX3_followPecks 23 = .ok (.istore_n 2, 1) := by decide +kernel
theorem dX3_followPecks_24 : decode cX3_followPecks 24 = .ok (.iload_n 2, 1) := by decide +kernel
theorem dX3_followPecks_25 : decode cX3_followPecks 25 = .ok (.aload_n 0, 1) := by decide +kernel
theorem dX3_followPecks_26 : decode cX3_followPecks 26 = .ok (.getfield 22, 3) := by decide +kernel
theorem dX3_followPecks_29 : decode cX3_followPecks 29 = .ok (.getfield 44, 3) := by decide +kernel
theorem dX3_followPecks_32 : decode cX3_followPecks 32 = .ok (.if_icmp .ge 33, 3) := by decide +kernel
theorem dX3_followPecks_35 : decode cX3_followPecks 35 = .ok (.aload_n 0, 1) := by decide +kernel
theorem dX3_followPecks_36 : decode cX3_followPecks 36 = .ok (.getfield 22, 3) := by decide +kernel
theorem dX3_followPecks_39 : decode cX3_followPecks 39 = .ok (.iload_n 1, 1) := by decide +kernel
theorem dX3_followPecks_40 : decode cX3_followPecks 40 = .ok (.iload_n 2, 1) := by decide +kernel
theorem dX3_followPecks_41 : decode cX3_followPecks 41 = .ok (.invokevirtual 53, 3) := by decide +kernel
theorem dX3_followPecks_44 : decode cX3_followPecks 44 = .ok (.ifCond .le 15, 3) := by decide +kernel
theorem dX3_followPecks_47 : decode cX3_followPecks 47 = .ok (.aload_n 0, 1) := by decide +kernel
theorem dX3_followPecks_48 : decode cX3_followPecks 48 = .ok (.getfield 19, 3) := by decide +kernel
theorem dX3_followPecks_51 : decode cX3_followPecks 51 = .ok (.iload_n 1, 1) := by decide +kernel
theorem dX3_followPecks_52 : decode cX3_followPecks 52 = .ok (.dup2, 1) := by decide +kernel
theorem dX3_followPecks_53 : decode cX3_followPecks 53 = .ok (.iaload, 1) := by decide +kernel
theorem dX3_followPecks_54 : decode cX3_followPecks 54 = .ok (.iconst 1, 1) := by decide +kernel
theorem dX3_followPecks_55 : decode cX3_followPecks 55 = .ok (.iload_n 2, 1) := by decide +kernel
theorem dX3_followPecks_56 : decode cX3_followPecks 56 = .ok (.ishl, 1) := by decide +kernel
theorem dX3_followPecks_57 : decode cX3_followPecks 57 = .ok (.ior, 1) := by decide +kernel
theorem dX3_followPecks_58 : decode cX3_followPecks 58 = .ok (.iastore, 1) := by decide +kernel
theorem dX3_followPecks_59 : decode cX3_followPecks 59 = .ok (.iinc 2 1, 3) := by decide +kernel
theorem dX3_followPecks_62 : decode cX3_followPecks 62 = .ok (.goto (-38), 3) := by decide +kernel
theorem dX3_followPecks_65 : decode cX3_followPecks 65 = .ok (.iinc 1 1, 3) := by decide +kernel
theorem dX3_followPecks_68 : decode cX3_followPecks 68 = .ok (.goto (-66), 3) := by decide +kernel
theorem dX3_followPecks_71 : decode cX3_followPecks 71 = .ok (.iconst 0, 1) := by decide +kernel
theorem dX3_followPecks_72 : decode cX3_followPecks 72 = .ok (.istore_n 1, 1) := by decide +kernel
theorem dX3_followPecks_73 : decode cX3_followPecks 73 = .ok (.iload_n 1, 1) := by decide +kernel
theorem dX3_followPecks_74 : decode cX3_followPecks 74 = .ok (.aload_n 0, 1) := by decide +kernel
theorem dX3_followPecks_75 : decode cX3_followPecks 75 = .ok (.getfield 22, 3) := by decide +kernel
theorem dX3_followPecks_78 : decode cX3_followPecks 78 = .ok (.getfield 44, 3) := by decide +kernel
theorem dX3_followPecks_81 : decode cX3_followPecks 81 = .ok (.if_icmp .ge 56, 3) := by decide +kernel
theorem dX3_followPecks_84 : decode cX3_followPecks 84 = .ok (.iconst 0, 1) := by decide +kernel
theorem dX3_followPecks_85 : decode cX3_followPecks 85 = .ok (.istore_n 2, 1) := by decide +kernel
theorem dX3_followPecks_86 : decode cX3_followPecks 86 = .ok (.iload_n 2, 1) := by decide +kernel
theorem dX3_followPecks_87 : decode cX3_followPecks 87 = .ok (.aload_n 0, 1) := by decide +kernel
theorem dX3_followPecks_88 : decode cX3_followPecks 88 = .ok (.getfield 22, 3) := by decide +kernel
theorem dX3_followPecks_91 : decode cX3_followPecks 91 = .ok (.getfield 44, 3) := by decide +kernel
theorem dX3_followPecks_94 : decode cX3_followPecks 94 = .ok (.if_icmp .ge 37, 3) := by decide +kernel
theorem dX3_followPecks_97 : decode cX3_followPecks 97 = .ok (.aload_n 0, 1) := by decide +kernel
theorem dX3_followPecks_98 : decode cX3_followPecks 98 = .ok (.getfield 19, 3) := by decide +kernel
theorem dX3_followPecks_101 : decode cX3_followPecks 101 = .ok (.iload_n 2, 1) := by decide +kernel
theorem dX3_followPecks_102 : decode cX3_followPecks 102 = .ok (.iaload, 1) := by decide +kernel
theorem dX3_followPecks_103 : decode cX3_followPecks 103 = .ok (.iload_n 1, 1) := by decide +kernel
theorem dX3_followPecks_104 : decode cX3_followPecks 104 = .ok (.invokestatic 49, 3) := by decide +kernel
theorem dX3_followPecks_107 : decode cX3_followPecks 107 = .ok (.ifCond .eq 18, 3) := by decide +kernel
theorem dX3_followPecks_110 : decode cX3_followPecks 110 = .ok (.aload_n 0, 1) := by decide +kernel
theorem dX3_followPecks_111 : decode cX3_followPecks 111 = .ok (.getfield 19, 3) := by decide +kernel
theorem dX3_followPecks_114 : decode cX3_followPecks 114 = .ok (.iload_n 2, 1) := by decide +kernel
theorem dX3_followPecks_115 : decode cX3_followPecks 115 = .ok (.dup2, 1) := by decide +kernel
theorem dX3_followPecks_116 : decode cX3_followPecks 116 = .ok (.iaload, 1) := by decide +kernel
theorem dX3_followPecks_117 : decode cX3_followPecks 117 = .ok (.aload_n 0, 1) := by decide +kernel
theorem dX3_followPecks_118 : decode cX3_followPecks 118 = .ok (.getfield 19, 3) := by decide +kernel
theorem dX3_followPecks_121 : decode cX3_followPecks 121 = .ok (.iload_n 1, 1) := by decide +kernel
theorem dX3_followPecks_122 : decode cX3_followPecks 122 = .ok (.iaload, 1) := by decide +kernel
theorem dX3_followPecks_123 : decode cX3_followPecks 123 = .ok (.ior, 1) := by decide +kernel
theorem dX3_followPecks_124 : decode cX3_followPecks 124 = .ok (.iastore, 1) := by decide +kernel
theorem dX3_followPecks_125 : decode cX3_followPecks 125 = .ok (.iinc 2 1, 3) := by decide +kernel
theorem dX3_followPecks_128 : decode cX3_followPecks 128 = .ok (.goto (-42), 3) := by decide +kernel
theorem dX3_followPecks_131 : decode cX3_followPecks 131 = .ok (.iinc 1 1, 3) := by decide +kernel
theorem dX3_followPecks_134 : decode cX3_followPecks 134 = .ok (.goto (-61), 3) := by decide +kernel
theorem dX3_followPecks_137 : decode cX3_followPecks 137 = .ok (.return_, 1) := by decide +kernel
set_option maxRecDepth 20000 in
set_option maxRecDepth 100000 in
theorem ggX3_nextGroup_X11_isIn : GoodIn wsX3_nextGroup wsX11_isIn := goodIn_r _ [6] rfl (by decide +kernel)
set_option maxRecDepth 20000 in
theorem gX3_nextGroup_X11_isIn_n49 : GoodIn wsX3_nextGroup (wsX11_isIn) := ggX3_nextGroup_X11_isIn
set_option maxRecDepth 20000 in
set_option maxRecDepth 100000 in
theorem ggX3_nextGroup_X3_comersTo : GoodIn wsX3_nextGroup wsX3_comersTo := goodIn_r _ [11, 1, 2, 3, 4, 5, 6, 12, 13, 14, 15, 16, 17, 18, 19, 20, 21, 22, 23, 24, 25, 26] rfl (by decide +kernel)
set_option maxRecDepth 20000 in
theorem gX3_nextGroup_X3_comersTo : GoodIn wsX3_nextGroup (wsV RX3 57 RX3 yX3_comersTo wsX3_comersTo) := goodIn_app (goodIn_of _ (by decide +kernel)) ggX3_nextGroup_X3_comersTo
theorem dX3_nextGroup_0 : decode cX3_nextGroup 0 = .ok (.iconst 0, 1) := by decide +kernel
theorem dX3_nextGroup_1 : decode cX3_nextGroup 1 = .ok (.istore_n 2, 1) := by decide +kernel
theorem dX3_nextGroup_2 : decode cX3_nextGroup 2 = .ok (.iload_n 2, 1) := by decide +kernel
theorem dX3_nextGroup_3 : decode cX3_nextGroup 3 = .ok (.aload_n 0, 1) := by decide +kernel
theorem dX3_nextGroup_4 : decode cX3_nextGroup 4 = .ok (.getfield 22, 3) := by decide +kernel
theorem dX3_nextGroup_7 : decode cX3_nextGroup 7 = .ok (.getfield 44, 3) := by decide +kernel
theorem dX3_nextGroup_10 : decode cX3_nextGroup 10 = .ok (.if_icmp .ge 40, 3) := by decide +kernel
theorem dX3_nextGroup_13 : decode cX3_nextGroup 13 = .ok (.iload_n 1, 1) := by decide +kernel
theorem dX3_nextGroup_14 : decode cX3_nextGroup 14 = .ok (.iload_n 2, 1) := by decide +kernel
theorem dX3_nextGroup_15 : decode cX3_nextGroup 15 = .ok (.invokestatic 49, 3) := by decide +kernel
theorem dX3_nextGroup_18 : decode cX3_nextGroup 18 = .ok (.ifCond .eq 26, 3) := by decide +kernel
theorem dX3_nextGroup_21 : decode cX3_nextGroup 21 = .ok (.aload_n 0, 1) := by decide +kernel
theorem dX3_nextGroup_22 : decode cX3_nextGroup 22 = .ok (.iload_n 2, 1) := by decide +kernel
theorem dX3_nextGroup_23 : decode cX3_nextGroup 23 = .ok (.invokevirtual 57, 3) := by decide +kernel
theorem dX3_nextGroup_26 : decode cX3_nextGroup 26 = .ok (.iload_n 1, 1) := by decide +kernel
theorem dX3_nextGroup_27 : decode cX3_nextGroup 27 = .ok (.iand, 1) := by decide +kernel
theorem dX3_nextGroup_28 : decode cX3_nextGroup 28 = .ok (.istore_n 3, 1) := by decide +kernel
theorem dX3_nextGroup_29 : decode cX3_nextGroup 29 = .ok (.iload_n 3, 1) := by decide +kernel
theorem dX3_nextGroup_30 : decode cX3_nextGroup 30 = .ok (.aload_n 0, 1) := by decide +kernel
theorem dX3_nextGroup_31 : decode cX3_nextGroup 31 = .ok (.getfield 19, 3) := by decide +kernel
theorem dX3_nextGroup_34 : decode cX3_nextGroup 34 = .ok (.iload_n 2, 1) := by decide +kernel
theorem dX3_nextGroup_35 : decode cX3_nextGroup 35 = .ok (.iaload, 1) := by decide +kernel
theorem dX3_nextGroup_36 : decode cX3_nextGroup 36 = .ok (.iconst (-1), 1) := by decide +kernel
theorem dX3_nextGroup_37 : decode cX3_nextGroup 37 = .ok (.ixor, 1) := by decide +kernel
theorem dX3_nextGroup_38 : decode cX3_nextGroup 38 = .ok (.iand, 1) := by decide +kernel
theorem dX3_nextGroup_39 : decode cX3_nextGroup 39 = .ok (.ifCond .ne 5, 3) := by decide +kernel
theorem dX3_nextGroup_42 : decode cX3_nextGroup 42 = .ok (.iload_n 3, 1) := by decide +kernel
theorem dX3_nextGroup_43 : decode cX3_nextGroup 43 = .ok (.ireturn, 1) := by decide +kernel
theorem dX3_nextGroup_44 : decode cX3_nextGroup 44 = .ok (.iinc 2 1, 3) := by decide +kernel
theorem dX3_nextGroup_47 : decode cX3_nextGroup 47 = .ok (.goto (-45), 3) := by decide +kernel
theorem dX3_nextGroup_50 : decode cX3_nextGroup 50 = .ok (.iload_n 1, 1) := by decide +kernel
theorem dX3_nextGroup_51 : decode cX3_nextGroup 51 = .ok (.ireturn, 1) := by decide +kernel
set_option maxRecDepth 20000 in
set_option maxRecDepth 100000 in
theorem ggX3_comersTo_X11_isIn : GoodIn wsX3_comersTo wsX11_isIn := goodIn_r _ [6] rfl (by decide +kernel)
set_option maxRecDepth 20000 in
theorem gX3_comersTo_X11_isIn_n49 : GoodIn wsX3_comersTo (wsX11_isIn) := ggX3_comersTo_X11_isIn
theorem dX3_comersTo_0 : decode cX3_comersTo 0 = .ok (.iconst 0, 1) := by decide +kernel
theorem dX3_comersTo_1 : decode cX3_comersTo 1 = .ok (.istore_n 2, 1) := by decide +kernel
theorem dX3_comersTo_2 : decode cX3_comersTo 2 = .ok (.iconst 0, 1) := by decide +kernel
theorem dX3_comersTo_3 : decode cX3_comersTo 3 = .ok (.istore_n 3, 1) := by decide +kernel
theorem dX3_comersTo_4 : decode cX3_comersTo 4 = .ok (.iload_n 3, 1) := by decide +kernel
theorem dX3_comersTo_5 : decode cX3_comersTo 5 = .ok (.aload_n 0, 1) := by decide +kernel
theorem dX3_comersTo_6 : decode cX3_comersTo 6 = .ok (.getfield 22, 3) := by decide +kernel
theorem dX3_comersTo_9 : decode cX3_comersTo 9 = .ok (.getfield 44, 3) := by decide +kernel
theorem dX3_comersTo_12 : decode cX3_comersTo 12 = .ok (.if_icmp .ge 28, 3) := by decide +kernel
theorem dX3_comersTo_15 : decode cX3_comersTo 15 = .ok (.aload_n 0, 1) := by decide +kernel
theorem dX3_comersTo_16 : decode cX3_comersTo 16 = .ok (.getfield 19, 3) := by decide +kernel
theorem dX3_comersTo_19 : decode cX3_comersTo 19 = .ok (.iload_n 3, 1) := by decide +kernel
theorem dX3_comersTo_20 : decode cX3_comersTo 20 = .ok (.iaload, 1) := by decide +kernel
theorem dX3_comersTo_21 : decode cX3_comersTo 21 = .ok (.iload_n 1, 1) := by decide +kernel
theorem dX3_comersTo_22 : decode cX3_comersTo 22 = .ok (.invokestatic 49, 3) := by decide +kernel
theorem dX3_comersTo_25 : decode cX3_comersTo 25 = .ok (.ifCond .eq 9, 3) := by decide +kernel
theorem dX3_comersTo_28 : decode cX3_comersTo 28 = .ok (.iload_n 2, 1) := by decide +kernel
theorem dX3_comersTo_29 : decode cX3_comersTo 29 = .ok (.iconst 1, 1) := by decide +kernel
theorem dX3_comersTo_30 : decode cX3_comersTo 30 = .ok (.iload_n 3, 1) := by decide +kernel
theorem dX3_comersTo_31 : decode cX3_comersTo 31 = .ok (.ishl, 1) := by decide +kernel
theorem dX3_comersTo_32 : decode cX3_comersTo 32 = .ok (.ior, 1) := by decide +kernel
theorem dX3_comersTo_33 : decode cX3_comersTo 33 = .ok (.istore_n 2, 1) := by decide +kernel
theorem dX3_comersTo_34 : decode cX3_comersTo 34 = .ok (.iinc 3 1, 3) := by decide +kernel
theorem dX3_comersTo_37 : decode cX3_comersTo 37 = .ok (.goto (-33), 3) := by decide +kernel
theorem dX3_comersTo_40 : decode cX3_comersTo 40 = .ok (.iload_n 2, 1) := by decide +kernel
theorem dX3_comersTo_41 : decode cX3_comersTo 41 = .ok (.ireturn, 1) := by decide +kernel
theorem dX4_init_0 : decode cX4_init 0 = .ok (.aload_n 0, 1) := by decide +kernel
theorem dX4_init_1 : decode cX4_init 1 = .ok (.invokespecial 3, 3) := by decide +kernel
theorem dX4_init_4 : decode cX4_init 4 = .ok (.aload_n 0, 1) := by decide +kernel
theorem dX4_init_5 : decode cX4_init 5 = .ok (.iconst (-1), 1) := by decide +kernel
theorem dX4_init_6 : decode cX4_init 6 = .ok (.putfield 9, 3) := by decide +kernel
theorem dX4_init_9 : decode cX4_init 9 = .ok (.aload_n 0, 1) := by decide +kernel
theorem dX4_init_10 : decode cX4_init 10 = .ok (.sipush 768, 3) := by decide +kernel
theorem dX4_init_13 : decode cX4_init 13 = .ok (.newarray .int, 2) := by decide +kernel
theorem dX4_init_15 : decode cX4_init 15 = .ok (.putfield 15, 3) := by decide +kernel
theorem dX4_init_18 : decode cX4_init 18 = .ok (.aload_n 0, 1) := by decide +kernel
theorem dX4_init_19 : decode cX4_init 19 = .ok (.sipush 768, 3) := by decide +kernel
theorem dX4_init_22 : decode cX4_init 22 = .ok (.newarray .int, 2) := by decide +kernel
theorem dX4_init_24 : decode cX4_init 24 = .ok (.putfield 19, 3) := by decide +kernel
theorem dX4_init_27 : decode cX4_init 27 = .ok (.aload_n 0, 1) := by decide +kernel
theorem dX4_init_28 : decode cX4_init 28 = .ok (.bipush 64, 2) := by decide +kernel
theorem dX4_init_30 : decode cX4_init 30 = .ok (.newarray .int, 2) := by decide +kernel
theorem dX4_init_32 : decode cX4_init 32 = .ok (.putfield 22, 3) := by decide +kernel
theorem dX4_init_35 : decode cX4_init 35 = .ok (.aload_n 0, 1) := by decide +kernel
theorem dX4_init_36 : decode cX4_init 36 = .ok (.bipush 64, 2) := by decide +kernel
theorem dX4_init_38 : decode cX4_init 38 = .ok (.newarray .int, 2) := by decide +kernel
theorem dX4_init_40 : decode cX4_init 40 = .ok (.putfield 25, 3) := by decide +kernel
theorem dX4_init_43 : decode cX4_init 43 = .ok (.aload_n 0, 1) := by decide +kernel
theorem dX4_init_44 : decode cX4_init 44 = .ok (.bipush 64, 2) := by decide +kernel
theorem dX4_init_46 : decode cX4_init 46 = .ok (.newarray .int, 2) := by decide +kernel
theorem dX4_init_48 : decode cX4_init 48 = .ok (.putfield 28, 3) := by decide +kernel
theorem dX4_init_51 : decode cX4_init 51 = .ok (.aload_n 0, 1) := by decide +kernel
theorem dX4_init_52 : decode cX4_init 52 = .ok (.bipush 64, 2) := by decide +kernel
theorem dX4_init_54 : decode cX4_init 54 = .ok (.newarray .int, 2) := by decide +kernel
theorem dX4_init_56 : decode cX4_init 56 = .ok (.putfield 31, 3) := by decide +kernel
theorem dX4_init_59 : decode cX4_init 59 = .ok (.aload_n 0, 1) := by decide +kernel
theorem dX4_init_60 : decode cX4_init 60 = .ok (.aload_n 1, 1) := by decide +kernel
theorem dX4_init_61 : decode cX4_init 61 = .ok (.putfield 34, 3) := by decide +kernel
theorem dX4_init_64 : decode cX4_init 64 = .ok (.return_, 1) := by decide +kernel
set_option maxRecDepth 20000 in
set_option maxRecDepth 100000 in
theorem ggX4_prepare_X8_gather : GoodIn wsX4_prepare wsX8_gather := goodIn_r _ [17, 18, 19, 20, 21, 22, 23, 24, 25, 26, 27, 28, 29, 30, 31, 32, 33, 34, 35, 36, 37, 38, 39, 40, 41, 42, 16, 43, 44, 45, 46, 47, 48, 49, 50, 51, 52, 53, 54, 55, 56, 57, 77, 78, 79, 80, 81, 82, 83, 84, 85, 86, 87, 88, 89, 90, 91, 92, 93] rfl (by decide +kernel)
set_option maxRecDepth 20000 in
theorem gX4_prepare_X8_gather : GoodIn wsX4_prepare (wsV RX4 38 RX8 yX8_gather wsX8_gather) := goodIn_app (goodIn_of _ (by decide +kernel)) ggX4_prepare_X8_gather
set_option maxRecDepth 20000 in
set_option maxRecDepth 100000 in
theorem ggX4_prepare_X4_spreadUnion : GoodIn wsX4_prepare wsX4_spreadUnion := goodIn_r _ [61] rfl (by decide +kernel)
set_option maxRecDepth 20000 in
theorem gX4_prepare_X4_spreadUnion : GoodIn wsX4_prepare (va_wsS RX4 50 yX4_spreadUnion wsX4_spreadUnion) := goodIn_app (goodIn_of _ (by decide +kernel)) ggX4_prepare_X4_spreadUnion
set_option maxRecDepth 20000 in
set_option maxRecDepth 100000 in
theorem ggX4_prepare_X8_peckOf : GoodIn wsX4_prepare wsX8_peckOf := goodIn_r _ [65, 44, 77, 78, 79, 80, 81, 82, 83, 84, 85, 86] rfl (by decide +kernel)
set_option maxRecDepth 20000 in
theorem gX4_prepare_X8_peckOf : GoodIn wsX4_prepare (wsV RX4 57 RX8 yX8_peckOf wsX8_peckOf) := goodIn_app (goodIn_of _ (by decide +kernel)) ggX4_prepare_X8_peckOf
set_option maxRecDepth 20000 in
set_option maxRecDepth 100000 in
theorem ggX4_prepare_X4_spreadSum : GoodIn wsX4_prepare wsX4_spreadSum := goodIn_r _ [68] rfl (by decide +kernel)
set_option maxRecDepth 20000 in
theorem gX4_prepare_X4_spreadSum : GoodIn wsX4_prepare (va_wsS RX4 61 yX4_spreadSum wsX4_spreadSum) := goodIn_app (goodIn_of _ (by decide +kernel)) ggX4_prepare_X4_spreadSum
theorem dX4_prepare_0 : decode cX4_prepare 0 = .ok (.aload_n 0, 1) := by decide +kernel
theorem dX4_prepare_1 : decode cX4_prepare 1 = .ok (.getfield 34, 3) := by decide +kernel
theorem dX4_prepare_4 : decode cX4_prepare 4 = .ok (.invokevirtual 38, 3) := by decide +kernel
theorem dX4_prepare_7 : decode cX4_prepare 7 = .ok (.aload_n 0, 1) := by decide +kernel
theorem dX4_prepare_8 : decode cX4_prepare 8 = .ok (.getfield 9, 3) := by decide +kernel
theorem dX4_prepare_11 : decode cX4_prepare 11 = .ok (.aload_n 0, 1) := by decide +kernel
theorem dX4_prepare_12 : decode cX4_prepare 12 = .ok (.getfield 34, 3) := by decide +kernel
theorem dX4_prepare_15 : decode cX4_prepare 15 = .ok (.getfield 43, 3) := by decide +kernel
theorem dX4_prepare_18 : decode cX4_prepare 18 = .ok (.if_icmp .ne 4, 3) := by decide +kernel
theorem dX4_prepare_21 : decode cX4_prepare 21 = .ok (.return_, 1) := by decide +kernel
theorem dX4_prepare_22 : decode cX4_prepare 22 = .ok (.aload_n 0, 1) := by decide +kernel
theorem dX4_prepare_23 : decode cX4_prepare 23 = .ok (.aload_n 0, 1) := by decide +kernel
theorem dX4_prepare_24 : decode cX4_prepare 24 = .ok (.getfield 34, 3) := by decide +kernel
theorem dX4_prepare_27 : decode cX4_prepare 27 = .ok (.getfield 43, 3) := by decide +kernel
theorem dX4_prepare_30 : decode cX4_prepare 30 = .ok (.putfield 9, 3) := by decide +kernel
theorem dX4_prepare_33 : decode cX4_prepare 33 = .ok (.iconst 0, 1) := by decide +kernel
theorem dX4_prepare_34 : decode cX4_prepare 34 = .ok (.istore_n 1, 1) := by decide +kernel
theorem dX4_prepare_35 : decode cX4_prepare 35 = .ok (.iload_n 1, 1) := by decide +kernel
theorem dX4_prepare_36 : decode cX4_prepare 36 = .ok (.aload_n 0, 1) := by decide +kernel
theorem dX4_prepare_37 : decode cX4_prepare 37 = .ok (.getfield 34, 3) := by decide +kernel
theorem dX4_prepare_40 : decode cX4_prepare 40 = .ok (.getfield 44, 3) := by decide +kernel
theorem dX4_prepare_43 : decode cX4_prepare 43 = .ok (.if_icmp .ge 145, 3) := by decide +kernel
theorem dX4_prepare_46 : decode cX4_prepare 46 = .ok (.iload_n 1, 1) := by decide +kernel
theorem dX4_prepare_47 : decode cX4_prepare 47 = .ok (.bipush 6, 2) := by decide +kernel
theorem dX4_prepare_49 : decode cX4_prepare 49 = .ok (.if_icmp .ge 7, 3) := by decide +kernel
theorem dX4_prepare_52 : decode cX4_prepare 52 = .ok (.iconst 1, 1) := by decide +kernel
theorem dX4_prepare_53 : decode cX4_prepare 53 = .ok (.goto 4, 3) := by decide +kernel
theorem dX4_prepare_56 : decode cX4_prepare 56 = .ok (.iconst 0, 1) := by decide +kernel
theorem dX4_prepare_57 : decode cX4_prepare 57 = .ok (.istore_n 2, 1) := by decide +kernel
theorem dX4_prepare_58 : decode cX4_prepare 58 = .ok (.iload_n 2, 1) := by decide +kernel
theorem dX4_prepare_59 : decode cX4_prepare 59 = .ok (.ifCond .eq 7, 3) := by decide +kernel
theorem dX4_prepare_62 : decode cX4_prepare 62 = .ok (.iload_n 1, 1) := by decide +kernel
theorem dX4_prepare_63 : decode cX4_prepare 63 = .ok (.goto 7, 3) := by decide +kernel
theorem dX4_prepare_66 : decode cX4_prepare 66 = .ok (.iload_n 1, 1) := by decide +kernel
theorem dX4_prepare_67 : decode cX4_prepare 67 = .ok (.bipush 6, 2) := by decide +kernel
theorem dX4_prepare_69 : decode cX4_prepare 69 = .ok (.isub, 1) := by decide +kernel
theorem dX4_prepare_70 : decode cX4_prepare 70 = .ok (.istore_n 3, 1) := by decide +kernel
theorem dX4_prepare_71 : decode cX4_prepare 71 = .ok (.iload_n 2, 1) := by decide +kernel
theorem dX4_prepare_72 : decode cX4_prepare 72 = .ok (.ifCond .eq 10, 3) := by decide +kernel
theorem dX4_prepare_75 : decode cX4_prepare 75 = .ok (.aload_n 0, 1) := by decide +kernel
theorem dX4_prepare_76 : decode cX4_prepare 76 = .ok (.getfield 22, 3) := by decide +kernel
theorem dX4_prepare_79 : decode cX4_prepare 79 = .ok (.goto 7, 3) := by decide +kernel
theorem dX4_prepare_82 : decode cX4_prepare 82 = .ok (.aload_n 0, 1) := by decide +kernel
theorem dX4_prepare_83 : decode cX4_prepare 83 = .ok (.getfield 25, 3) := by decide +kernel
theorem dX4_prepare_86 : decode cX4_prepare 86 = .ok (.iload_n 3, 1) := by decide +kernel
theorem dX4_prepare_87 : decode cX4_prepare 87 = .ok (.aload_n 0, 1) := by decide +kernel
theorem dX4_prepare_88 : decode cX4_prepare 88 = .ok (.getfield 34, 3) := by decide +kernel
theorem dX4_prepare_91 : decode cX4_prepare 91 = .ok (.getfield 47, 3) := by decide +kernel
theorem dX4_prepare_94 : decode cX4_prepare 94 = .ok (.iload_n 1, 1) := by decide +kernel
theorem dX4_prepare_95 : decode cX4_prepare 95 = .ok (.iaload, 1) := by decide +kernel
theorem dX4_prepare_96 : decode cX4_prepare 96 = .ok (.invokestatic 50, 3) := by decide +kernel
theorem dX4_prepare_99 : decode cX4_prepare 99 = .ok (.iload_n 2, 1) := by decide +kernel
theorem dX4_prepare_100 : decode cX4_prepare 100 = .ok (.ifCond .eq 10, 3) := by decide +kernel
theorem dX4_prepare_103 : decode cX4_prepare 103 = .ok (.aload_n 0, 1) := by decide +kernel
theorem dX4_prepare_104 : decode cX4_prepare 104 = .ok (.getfield 28, 3) := by decide +kernel
theorem dX4_prepare_107 : decode cX4_prepare 107 = .ok (.goto 7, 3) := by decide +kernel
theorem dX4_prepare_110 : decode cX4_prepare 110 = .ok (.aload_n 0, 1) := by decide +kernel
theorem dX4_prepare_111 : decode cX4_prepare 111 = .ok (.getfield 31, 3) := by decide +kernel
theorem dX4_prepare_114 : decode cX4_prepare 114 = .ok (.iload_n 3, 1) := by decide +kernel
theorem dX4_prepare_115 : decode cX4_prepare 115 = .ok (.aload_n 0, 1) := by decide +kernel
theorem dX4_prepare_116 : decode cX4_prepare 116 = .ok (.getfield 34, 3) := by decide +kernel
theorem dX4_prepare_119 : decode cX4_prepare 119 = .ok (.getfield 54, 3) := by decide +kernel
theorem dX4_prepare_122 : decode cX4_prepare 122 = .ok (.iload_n 1, 1) := by decide +kernel
theorem dX4_prepare_123 : decode cX4_prepare 123 = .ok (.iaload, 1) := by decide +kernel
theorem dX4_prepare_124 : decode cX4_prepare 124 = .ok (.invokestatic 50, 3) := by decide +kernel
theorem dX4_prepare_127 : decode cX4_prepare 127 = .ok (.iconst 0, 1) := by decide +kernel
theorem dX4_prepare_128 : decode cX4_prepare 128 = .ok (.istore 4, 2) := by decide +kernel
theorem dX4_prepare_130 : decode cX4_prepare 130 = .ok (.iload 4, 2) := by decide +kernel
theorem dX4_prepare_132 : decode cX4_prepare 132 = .ok (.aload_n 0, 1) := by decide +kernel
theorem dX4_prepare_133 : decode cX4_prepare 133 = .ok (.getfield 34, 3) := by decide +kernel
theorem dX4_prepare_136 : decode cX4_prepare 136 = .ok (.getfield 44, 3) := by decide +kernel
theorem dX4_prepare_139 : decode cX4_prepare 139 = .ok (.if_icmp .ge 43, 3) := by decide +kernel
theorem dX4_prepare_142 : decode cX4_prepare 142 = .ok (.iload_n 2, 1) := by decide +kernel
theorem dX4_prepare_143 : decode cX4_prepare 143 = .ok (.ifCond .eq 10, 3) := by decide +kernel
theorem dX4_prepare_146 : decode cX4_prepare 146 = .ok (.aload_n 0, 1) := by decide +kernel
theorem dX4_prepare_147 : decode cX4_prepare 147 = .ok (.getfield 15, 3) := by decide +kernel
theorem dX4_prepare_150 : decode cX4_prepare 150 = .ok (.goto 7, 3) := by decide +kernel
theorem dX4_prepare_153 : decode cX4_prepare 153 = .ok (.aload_n 0, 1) := by decide +kernel
theorem dX4_prepare_154 : decode cX4_prepare 154 = .ok (.getfield 19, 3) := by decide +kernel
theorem dX4_prepare_157 : decode cX4_prepare 157 = .ok (.iload 4, 2) := by decide +kernel
theorem dX4_prepare_159 : decode cX4_prepare 159 = .ok (.bipush 64, 2) := by decide +kernel
theorem dX4_prepare_161 : decode cX4_prepare 161 = .ok (.imul, 1) := by decide +kernel
theorem dX4_prepare_162 : decode cX4_prepare 162 = .ok (.iload_n 3, 1) := by decide +kernel
theorem dX4_prepare_163 : decode cX4_prepare 163 = .ok (.aload_n 0, 1) := by decide +kernel
theorem dX4_prepare_164 : decode cX4_prepare 164 = .ok (.getfield 34, 3) := by decide +kernel
theorem dX4_prepare_167 : decode cX4_prepare 167 = .ok (.iload 4, 2) := by decide +kernel
theorem dX4_prepare_169 : decode cX4_prepare 169 = .ok (.iload_n 1, 1) := by decide +kernel
theorem dX4_prepare_170 : decode cX4_prepare 170 = .ok (.invokevirtual 57, 3) := by decide +kernel
theorem dX4_prepare_173 : decode cX4_prepare 173 = .ok (.invokestatic 61, 3) := by decide +kernel
theorem dX4_prepare_176 : decode cX4_prepare 176 = .ok (.iinc 4 1, 3) := by decide +kernel
theorem dX4_prepare_179 : decode cX4_prepare 179 = .ok (.goto (-49), 3) := by decide +kernel
theorem dX4_prepare_182 : decode cX4_prepare 182 = .ok (.iinc 1 1, 3) := by decide +kernel
theorem dX4_prepare_185 : decode cX4_prepare 185 = .ok (.goto (-150), 3) := by decide +kernel
theorem dX4_prepare_188 : decode cX4_prepare 188 = .ok (.return_, 1) := by decide +kernel
theorem dX4_spreadUnion_0 : decode cX4_spreadUnion 0 = .ok (.iconst 1, 1) := by decide +kernel
theorem dX4_spreadUnion_1 : decode cX4_spreadUnion 1 = .ok (.iload_n 1, 1) := by decide +kernel
theorem dX4_spreadUnion_2 : decode cX4_spreadUnion 2 = .ok (.ishl, 1) := by decide +kernel
theorem dX4_spreadUnion_3 : decode cX4_spreadUnion 3 = .ok (.istore_n 3, 1) := by decide +kernel
theorem dX4_spreadUnion_4 : decode cX4_spreadUnion 4 = .ok (.iconst 0, 1) := by decide +kernel
theorem dX4_spreadUnion_5 : decode cX4_spreadUnion 5 = .ok (.istore 4, 2) := by decide +kernel
theorem dX4_spreadUnion_7 : decode cX4_spreadUnion 7 = .ok (.iload 4, 2) := by decide +kernel
theorem dX4_spreadUnion_9 : decode cX4_spreadUnion 9 = .ok (.iload_n 3, 1) := by decide +kernel
theorem dX4_spreadUnion_10 : decode cX4_spreadUnion 10 = .ok (.if_icmp .ge 21, 3) := by decide +kernel
theorem dX4_spreadUnion_13 : decode cX4_spreadUnion 13 = .ok (.aload_n 0, 1) := by decide +kernel
theorem dX4_spreadUnion_14 : decode cX4_spreadUnion 14 = .ok (.iload_n 3, 1) := by decide +kernel
theorem dX4_spreadUnion_15 : decode cX4_spreadUnion 15 = .ok (.iload 4, 2) := by decide +kernel
theorem dX4_spreadUnion_17 : decode cX4_spreadUnion 17 = .ok (.iadd, 1) := by decide +kernel
theorem dX4_spreadUnion_18 : decode cX4_spreadUnion 18 = .ok (.aload_n 0, 1) := by decide +kernel
theorem dX4_spreadUnion_19 : decode cX4_spreadUnion 19 = .ok (.iload 4, 2) := by decide +kernel
theorem dX4_spreadUnion_21 : decode cX4_spreadUnion 21 = .ok (.iaload, 1) := by decide +kernel
theorem dX4_spreadUnion_22 : decode cX4_spreadUnion 22 = .ok (.iload_n 2, 1) := by decide +kernel
theorem dX4_spreadUnion_23 : decode cX4_spreadUnion 23 = .ok (.ior, 1) := by decide +kernel
theorem dX4_spreadUnion_24 : decode cX4_spreadUnion 24 = .ok (.iastore, 1) := by decide +kernel
theorem dX4_spreadUnion_25 : decode cX4_spreadUnion 25 = .ok (.iinc 4 1, 3) := by decide +kernel
theorem dX4_spreadUnion_28 : decode cX4_spreadUnion 28 = .ok (.goto (-21), 3) := by decide +kernel
theorem dX4_spreadUnion_31 : decode cX4_spreadUnion 31 = .ok (.return_, 1) := by decide +kernel
theorem dX4_spreadSum_0 : decode cX4_spreadSum 0 = .ok (.iconst 1, 1) := by decide +kernel
theorem dX4_spreadSum_1 : decode cX4_spreadSum 1 = .ok (.iload_n 2, 1) := by decide +kernel
theorem dX4_spreadSum_2 : decode cX4_spreadSum 2 = .ok (.ishl, 1) := by decide +kernel
theorem dX4_spreadSum_3 : decode cX4_spreadSum 3 = .ok (.istore 4, 2) := by decide +kernel
theorem dX4_spreadSum_5 : decode cX4_spreadSum 5 = .ok (.iconst 0, 1) := by decide +kernel
theorem dX4_spreadSum_6 : decode cX4_spreadSum 6 = .ok (.istore 5, 2) := by decide +kernel
theorem dX4_spreadSum_8 : decode cX4_spreadSum 8 = .ok (.iload 5, 2) := by decide +kernel
theorem dX4_spreadSum_10 : decode cX4_spreadSum 10 = .ok (.iload 4, 2) := by decide +kernel
theorem dX4_spreadSum_12 : decode cX4_spreadSum 12 = .ok (.if_icmp .ge 26, 3) := by decide +kernel
theorem dX4_spreadSum_15 : decode cX4_spreadSum 15 = .ok (.aload_n 0, 1) := by decide +kernel
theorem dX4_spreadSum_16 : decode cX4_spreadSum 16 = .ok (.iload_n 1, 1) := by decide +kernel
theorem dX4_spreadSum_17 : decode cX4_spreadSum 17 = .ok (.iload 4, 2) := by decide +kernel
theorem dX4_spreadSum_19 : decode cX4_spreadSum 19 = .ok (.iadd, 1) := by decide +kernel
theorem dX4_spreadSum_20 : decode cX4_spreadSum 20 = .ok (.iload 5, 2) := by decide +kernel
theorem dX4_spreadSum_22 : decode cX4_spreadSum 22 = .ok (.iadd, 1) := by decide +kernel
theorem dX4_spreadSum_23 : decode cX4_spreadSum 23 = .ok (.aload_n 0, 1) := by decide +kernel
theorem dX4_spreadSum_24 : decode cX4_spreadSum 24 = .ok (.iload_n 1, 1) := by decide +kernel
theorem dX4_spreadSum_25 : decode cX4_spreadSum 25 = .ok (.iload 5, 2) := by decide +kernel
theorem dX4_spreadSum_27 : decode cX4_spreadSum 27 = .ok (.iadd, 1) := by decide +kernel
theorem dX4_spreadSum_28 : decode cX4_spreadSum 28 = .ok (.iaload, 1) := by decide +kernel
theorem dX4_spreadSum_29 : decode cX4_spreadSum 29 = .ok (.iload_n 3, 1) := by decide +kernel
theorem dX4_spreadSum_30 : decode cX4_spreadSum 30 = .ok (.iadd, 1) := by decide +kernel
theorem dX4_spreadSum_31 : decode cX4_spreadSum 31 = .ok (.iastore, 1) := by decide +kernel
theorem dX4_spreadSum_32 : decode cX4_spreadSum 32 = .ok (.iinc 5 1, 3) := by decide +kernel
theorem dX4_spreadSum_35 : decode cX4_spreadSum 35 = .ok (.goto (-27), 3) := by decide +kernel
theorem dX4_spreadSum_38 : decode cX4_spreadSum 38 = .ok (.return_, 1) := by decide +kernel
theorem dX4_costBelow_0 : decode cX4_costBelow 0 = .ok (.aload_n 0, 1) := by decide +kernel
theorem dX4_costBelow_1 : decode cX4_costBelow 1 = .ok (.getfield 15, 3) := by decide +kernel
theorem dX4_costBelow_4 : decode cX4_costBelow 4 = .ok (.iload_n 2, 1) := by decide +kernel
theorem dX4_costBelow_5 : decode cX4_costBelow 5 = .ok (.bipush 64, 2) := by decide +kernel
theorem dX4_costBelow_7 : decode cX4_costBelow 7 = .ok (.imul, 1) := by decide +kernel
theorem dX4_costBelow_8 : decode cX4_costBelow 8 = .ok (.iload_n 1, 1) := by decide +kernel
theorem dX4_costBelow_9 : decode cX4_costBelow 9 = .ok (.bipush 63, 2) := by decide +kernel
theorem dX4_costBelow_11 : decode cX4_costBelow 11 = .ok (.iand, 1) := by decide +kernel
theorem dX4_costBelow_12 : decode cX4_costBelow 12 = .ok (.iadd, 1) := by decide +kernel
theorem dX4_costBelow_13 : decode cX4_costBelow 13 = .ok (.iaload, 1) := by decide +kernel
theorem dX4_costBelow_14 : decode cX4_costBelow 14 = .ok (.aload_n 0, 1) := by decide +kernel
theorem dX4_costBelow_15 : decode cX4_costBelow 15 = .ok (.getfield 19, 3) := by decide +kernel
theorem dX4_costBelow_18 : decode cX4_costBelow 18 = .ok (.iload_n 2, 1) := by decide +kernel
theorem dX4_costBelow_19 : decode cX4_costBelow 19 = .ok (.bipush 64, 2) := by decide +kernel
theorem dX4_costBelow_21 : decode cX4_costBelow 21 = .ok (.imul, 1) := by decide +kernel
theorem dX4_costBelow_22 : decode cX4_costBelow 22 = .ok (.iload_n 1, 1) := by decide +kernel
theorem dX4_costBelow_23 : decode cX4_costBelow 23 = .ok (.bipush 6, 2) := by decide +kernel
theorem dX4_costBelow_25 : decode cX4_costBelow 25 = .ok (.ishr, 1) := by decide +kernel
theorem dX4_costBelow_26 : decode cX4_costBelow 26 = .ok (.bipush 63, 2) := by decide +kernel
theorem dX4_costBelow_28 : decode cX4_costBelow 28 = .ok (.iand, 1) := by decide +kernel
theorem dX4_costBelow_29 : decode cX4_costBelow 29 = .ok (.iadd, 1) := by decide +kernel
theorem dX4_costBelow_30 : decode cX4_costBelow 30 = .ok (.iaload, 1) := by decide +kernel
theorem dX4_costBelow_31 : decode cX4_costBelow 31 = .ok (.iadd, 1) := by decide +kernel
theorem dX4_costBelow_32 : decode cX4_costBelow 32 = .ok (.ireturn, 1) := by decide +kernel
theorem dX4_mustBeBelow_0 : decode cX4_mustBeBelow 0 = .ok (.aload_n 0, 1) := by decide +kernel
theorem dX4_mustBeBelow_1 : decode cX4_mustBeBelow 1 = .ok (.getfield 22, 3) := by decide +kernel
theorem dX4_mustBeBelow_4 : decode cX4_mustBeBelow 4 = .ok (.iload_n 1, 1) := by decide +kernel
theorem dX4_mustBeBelow_5 : decode cX4_mustBeBelow 5 = .ok (.bipush 63, 2) := by decide +kernel
theorem dX4_mustBeBelow_7 : decode cX4_mustBeBelow 7 = .ok (.iand, 1) := by decide +kernel
theorem dX4_mustBeBelow_8 : decode cX4_mustBeBelow 8 = .ok (.iaload, 1) := by decide +kernel
theorem dX4_mustBeBelow_9 : decode cX4_mustBeBelow 9 = .ok (.aload_n 0, 1) := by decide +kernel
theorem dX4_mustBeBelow_10 : decode cX4_mustBeBelow 10 = .ok (.getfield 25, 3) := by decide +kernel
theorem dX4_mustBeBelow_13 : decode cX4_mustBeBelow 13 = .ok (.iload_n 1, 1) := by decide +kernel
theorem dX4_mustBeBelow_14 : decode cX4_mustBeBelow 14 = .ok (.bipush 6, 2) := by decide +kernel
theorem dX4_mustBeBelow_16 : decode cX4_mustBeBelow 16 = .ok (.ishr, 1) := by decide +kernel
theorem dX4_mustBeBelow_17 : decode cX4_mustBeBelow 17 = .ok (.bipush 63, 2) := by decide +kernel
theorem dX4_mustBeBelow_19 : decode cX4_mustBeBelow 19 = .ok (.iand, 1) := by decide +kernel
theorem dX4_mustBeBelow_20 : decode cX4_mustBeBelow 20 = .ok (.iaload, 1) := by decide +kernel
theorem dX4_mustBeBelow_21 : decode cX4_mustBeBelow 21 = .ok (.ior, 1) := by decide +kernel
theorem dX4_mustBeBelow_22 : decode cX4_mustBeBelow 22 = .ok (.ireturn, 1) := by decide +kernel
theorem dX4_pairsOf_0 : decode cX4_pairsOf 0 = .ok (.aload_n 0, 1) := by decide +kernel
theorem dX4_pairsOf_1 : decode cX4_pairsOf 1 = .ok (.getfield 28, 3) := by decide +kernel
theorem dX4_pairsOf_4 : decode cX4_pairsOf 4 = .ok (.iload_n 1, 1) := by decide +kernel
theorem dX4_pairsOf_5 : decode cX4_pairsOf 5 = .ok (.bipush 63, 2) := by decide +kernel
theorem dX4_pairsOf_7 : decode cX4_pairsOf 7 = .ok (.iand, 1) := by decide +kernel
theorem dX4_pairsOf_8 : decode cX4_pairsOf 8 = .ok (.iaload, 1) := by decide +kernel
theorem dX4_pairsOf_9 : decode cX4_pairsOf 9 = .ok (.aload_n 0, 1) := by decide +kernel
theorem dX4_pairsOf_10 : decode cX4_pairsOf 10 = .ok (.getfield 31, 3) := by decide +kernel
theorem dX4_pairsOf_13 : decode cX4_pairsOf 13 = .ok (.iload_n 1, 1) := by decide +kernel
theorem dX4_pairsOf_14 : decode cX4_pairsOf 14 = .ok (.bipush 6, 2) := by decide +kernel
theorem dX4_pairsOf_16 : decode cX4_pairsOf 16 = .ok (.ishr, 1) := by decide +kernel
theorem dX4_pairsOf_17 : decode cX4_pairsOf 17 = .ok (.bipush 63, 2) := by decide +kernel
theorem dX4_pairsOf_19 : decode cX4_pairsOf 19 = .ok (.iand, 1) := by decide +kernel
theorem dX4_pairsOf_20 : decode cX4_pairsOf 20 = .ok (.iaload, 1) := by decide +kernel
theorem dX4_pairsOf_21 : decode cX4_pairsOf 21 = .ok (.ior, 1) := by decide +kernel
theorem dX4_pairsOf_22 : decode cX4_pairsOf 22 = .ok (.ireturn, 1) := by decide +kernel
theorem dX5_init_0 : decode cX5_init 0 = .ok (.aload_n 0, 1) := by decide +kernel
theorem dX5_init_1 : decode cX5_init 1 = .ok (.invokespecial 3, 3) := by decide +kernel
theorem dX5_init_4 : decode cX5_init 4 = .ok (.aload_n 0, 1) := by decide +kernel
theorem dX5_init_5 : decode cX5_init 5 = .ok (.bipush 12, 2) := by decide +kernel
theorem dX5_init_7 : decode cX5_init 7 = .ok (.newarray .int, 2) := by decide +kernel
theorem dX5_init_9 : decode cX5_init 9 = .ok (.putfield 9, 3) := by decide +kernel
theorem dX5_init_12 : decode cX5_init 12 = .ok (.return_, 1) := by decide +kernel
theorem dX5_isPlace_0 : decode cX5_isPlace 0 = .ok (.iload_n 1, 1) := by decide +kernel
theorem dX5_isPlace_1 : decode cX5_isPlace 1 = .ok (.ifCond .lt 15, 3) := by decide +kernel
theorem dX5_isPlace_4 : decode cX5_isPlace 4 = .ok (.iload_n 1, 1) := by decide +kernel
theorem dX5_isPlace_5 : decode cX5_isPlace 5 = .ok (.aload_n 0, 1) := by decide +kernel
theorem dX5_isPlace_6 : decode cX5_isPlace 6 = .ok (.getfield 15, 3) := by decide +kernel
theorem dX5_isPlace_9 : decode cX5_isPlace 9 = .ok (.if_icmp .ge 7, 3) := by decide +kernel
theorem dX5_isPlace_12 : decode cX5_isPlace 12 = .ok (.iconst 1, 1) := by decide +kernel
theorem dX5_isPlace_13 : decode cX5_isPlace 13 = .ok (.goto 4, 3) := by decide +kernel
theorem dX5_isPlace_16 : decode cX5_isPlace 16 = .ok (.iconst 0, 1) := by decide +kernel
theorem dX5_isPlace_17 : decode cX5_isPlace 17 = .ok (.ireturn, 1) := by decide +kernel
theorem dX5_holds_0 : decode cX5_holds 0 = .ok (.iconst 0, 1) := by decide +kernel
theorem dX5_holds_1 : decode cX5_holds 1 = .ok (.istore_n 2, 1) := by decide +kernel
theorem dX5_holds_2 : decode cX5_holds 2 = .ok (.iload_n 2, 1) := by decide +kernel
theorem dX5_holds_3 : decode cX5_holds 3 = .ok (.aload_n 0, 1) := by decide +kernel
theorem dX5_holds_4 : decode cX5_holds 4 = .ok (.getfield 15, 3) := by decide +kernel
theorem dX5_holds_7 : decode cX5_holds 7 = .ok (.if_icmp .ge 21, 3) := by decide +kernel
theorem dX5_holds_10 : decode cX5_holds 10 = .ok (.aload_n 0, 1) := by decide +kernel
theorem dX5_holds_11 : decode cX5_holds 11 = .ok (.getfield 9, 3) := by decide +kernel
theorem dX5_holds_14 : decode cX5_holds 14 = .ok (.iload_n 2, 1) := by decide +kernel
theorem dX5_holds_15 : decode cX5_holds 15 = .ok (.iaload, 1) := by decide +kernel
theorem dX5_holds_16 : decode cX5_holds 16 = .ok (.iload_n 1, 1) := by decide +kernel
theorem dX5_holds_17 : decode cX5_holds 17 = .ok (.if_icmp .ne 5, 3) := by decide +kernel
theorem dX5_holds_20 : decode cX5_holds 20 = .ok (.iconst 1, 1) := by decide +kernel
theorem dX5_holds_21 : decode cX5_holds 21 = .ok (.ireturn, 1) := by decide +kernel
theorem dX5_holds_22 : decode cX5_holds 22 = .ok (.iinc 2 1, 3) := by decide +kernel
theorem dX5_holds_25 : decode cX5_holds 25 = .ok (.goto (-23), 3) := by decide +kernel
theorem dX5_holds_28 : decode cX5_holds 28 = .ok (.iconst 0, 1) := by decide +kernel
theorem dX5_holds_29 : decode cX5_holds 29 = .ok (.ireturn, 1) := by decide +kernel
theorem dX5_append_0 : decode cX5_append 0 = .ok (.aload_n 0, 1) := by decide +kernel
theorem dX5_append_1 : decode cX5_append 1 = .ok (.getfield 15, 3) := by decide +kernel
theorem dX5_append_4 : decode cX5_append 4 = .ok (.bipush 12, 2) := by decide +kernel
theorem dX5_append_6 : decode cX5_append 6 = .ok (.if_icmp .ge 23, 3) := by decide +kernel
theorem dX5_append_9 : decode cX5_append 9 = .ok (.aload_n 0, 1) := by decide +kernel
theorem dX5_append_10 : decode cX5_append 10 = .ok (.getfield 9, 3) := by decide +kernel
theorem dX5_append_13 : decode cX5_append 13 = .ok (.aload_n 0, 1) := by decide +kernel
theorem dX5_append_14 : decode cX5_append 14 = .ok (.getfield 15, 3) := by decide +kernel
theorem dX5_append_17 : decode cX5_append 17 = .ok (.iload_n 1, 1) := by decide +kernel
theorem dX5_append_18 : decode cX5_append 18 = .ok (.iastore, 1) := by decide +kernel
theorem dX5_append_19 : decode cX5_append 19 = .ok (.aload_n 0, 1) := by decide +kernel
theorem dX5_append_20 : decode cX5_append 20 = .ok (.dup, 1) := by decide +kernel
theorem dX5_append_21 : decode cX5_append 21 = .ok (.getfield 15, 3) := by decide +kernel
theorem dX5_append_24 : decode cX5_append 24 = .ok (.iconst 1, 1) := by decide +kernel
theorem dX5_append_25 : decode cX5_append 25 = .ok (.iadd, 1) := by decide +kernel
theorem dX5_append_26 : decode cX5_append 26 = .ok (.putfield 15, 3) := by decide +kernel
theorem dX5_append_29 : decode cX5_append 29 = .ok (.return_, 1) := by decide +kernel
theorem dX5_reverse_0 : decode cX5_reverse 0 = .ok (.iconst 0, 1) := by decide +kernel
theorem dX5_reverse_1 : decode cX5_reverse 1 = .ok (.istore_n 1, 1) := by decide +kernel
theorem dX5_reverse_2 : decode cX5_reverse 2 = .ok (.iload_n 1, 1) := by decide +kernel
theorem dX5_reverse_3 : decode cX5_reverse 3 = .ok (.aload_n 0, 1) := by decide +kernel
theorem dX5_reverse_4 : decode cX5_reverse 4 = .ok (.getfield 15, 3) := by decide +kernel
theorem dX5_reverse_7 : decode cX5_reverse 7 = .ok (.iconst 2, 1) := by decide +kernel
theorem dX5_reverse_8 : decode cX5_reverse 8 = .ok (.idiv, 1) := by decide +kernel
theorem dX5_reverse_9 : decode cX5_reverse 9 = .ok (.if_icmp .ge 44, 3) := by decide +kernel
theorem dX5_reverse_12 : decode cX5_reverse 12 = .ok (.aload_n 0, 1) := by decide +kernel
theorem dX5_reverse_13 : decode cX5_reverse 13 = .ok (.getfield 15, 3) := by decide +kernel
theorem dX5_reverse_16 : decode cX5_reverse 16 = .ok (.iconst 1, 1) := by decide +kernel
theorem dX5_reverse_17 : decode cX5_reverse 17 = .ok (.isub, 1) := by decide +kernel
theorem dX5_reverse_18 : decode cX5_reverse 18 = .ok (.iload_n 1, 1) := by decide +kernel
theorem dX5_reverse_19 : decode cX5_reverse 19 = .ok (.isub, 1) := by decide +kernel
theorem dX5_reverse_20 : decode cX5_reverse 20 = .ok (.istore_n 2, 1) := by decide +kernel
theorem dX5_reverse_21 : decode cX5_reverse 21 = .ok (.aload_n 0, 1) := by decide +kernel
theorem dX5_reverse_22 : decode cX5_reverse 22 = .ok (.getfield 9, 3) := by decide +kernel
theorem dX5_reverse_25 : decode cX5_reverse 25 = .ok (.iload_n 1, 1) := by decide +kernel
theorem dX5_reverse_26 : decode cX5_reverse 26 = .ok (.iaload, 1) := by decide +kernel
theorem dX5_reverse_27 : decode cX5_reverse 27 = .ok (.istore_n 3, 1) := by decide +kernel
theorem dX5_reverse_28 : decode cX5_reverse 28 = .ok (.aload_n 0, 1) := by decide +kernel
theorem dX5_reverse_29 : decode cX5_reverse 29 = .ok (.getfield 9, 3) := by decide +kernel
theorem dX5_reverse_32 : decode cX5_reverse 32 = .ok (.iload_n 1, 1) := by decide +kernel
theorem dX5_reverse_33 : decode cX5_reverse 33 = .ok (.aload_n 0, 1) := by decide +kernel
theorem dX5_reverse_34 : decode cX5_reverse 34 = .ok (.getfield 9, 3) := by decide +kernel
theorem dX5_reverse_37 : decode cX5_reverse 37 = .ok (.iload_n 2, 1) := by decide +kernel
theorem dX5_reverse_38 : decode cX5_reverse 38 = .ok (.iaload, 1) := by decide +kernel
theorem dX5_reverse_39 : decode cX5_reverse 39 = .ok (.iastore, 1) := by decide +kernel
theorem dX5_reverse_40 : decode cX5_reverse 40 = .ok (.aload_n 0, 1) := by decide +kernel
theorem dX5_reverse_41 : decode cX5_reverse 41 = .ok (.getfield 9, 3) := by decide +kernel
theorem dX5_reverse_44 : decode cX5_reverse 44 = .ok (.iload_n 2, 1) := by decide +kernel
theorem dX5_reverse_45 : decode cX5_reverse 45 = .ok (.iload_n 3, 1) := by decide +kernel
theorem dX5_reverse_46 : decode cX5_reverse 46 = .ok (.iastore, 1) := by decide +kernel
theorem dX5_reverse_47 : decode cX5_reverse 47 = .ok (.iinc 1 1, 3) := by decide +kernel
theorem dX5_reverse_50 : decode cX5_reverse 50 = .ok (.goto (-48), 3) := by decide +kernel
theorem dX5_reverse_53 : decode cX5_reverse 53 = .ok (.return_, 1) := by decide +kernel
theorem dX6_init_0 : decode cX6_init 0 = .ok (.aload_n 0, 1) := by decide +kernel
theorem dX6_init_1 : decode cX6_init 1 = .ok (.invokespecial 3, 3) := by decide +kernel
theorem dX6_init_4 : decode cX6_init 4 = .ok (.aload_n 0, 1) := by decide +kernel
theorem dX6_init_5 : decode cX6_init 5 = .ok (.bipush 12, 2) := by decide +kernel
theorem dX6_init_7 : decode cX6_init 7 = .ok (.newarray .int, 2) := by decide +kernel
theorem dX6_init_9 : decode cX6_init 9 = .ok (.putfield 9, 3) := by decide +kernel
theorem dX6_init_12 : decode cX6_init 12 = .ok (.aload_n 0, 1) := by decide +kernel
theorem dX6_init_13 : decode cX6_init 13 = .ok (.bipush 12, 2) := by decide +kernel
theorem dX6_init_15 : decode cX6_init 15 = .ok (.newarray .int, 2) := by decide +kernel
theorem dX6_init_17 : decode cX6_init 17 = .ok (.putfield 15, 3) := by decide +kernel
theorem dX6_init_20 : decode cX6_init 20 = .ok (.aload_n 0, 1) := by decide +kernel
theorem dX6_init_21 : decode cX6_init 21 = .ok (.aload_n 1, 1) := by decide +kernel
theorem dX6_init_22 : decode cX6_init 22 = .ok (.putfield 18, 3) := by decide +kernel
theorem dX6_init_25 : decode cX6_init 25 = .ok (.return_, 1) := by decide +kernel
set_option maxRecDepth 20000 in
set_option maxRecDepth 100000 in
theorem ggX6_reason_X8_gather : GoodIn wsX6_reason wsX8_gather := goodIn_r _ [11, 12, 13, 14, 15, 16, 17, 18, 19, 20, 21, 22, 23, 24, 25, 26, 27, 28, 29, 30, 31, 32, 33, 34, 35, 36, 10, 37, 38, 39, 40, 41, 42, 43, 44, 45, 46, 47, 48, 49, 50, 51, 88, 89, 90, 91, 92, 93, 94, 95, 96, 97, 98, 99, 100, 101, 102, 103, 104] rfl (by decide +kernel)
set_option maxRecDepth 20000 in
theorem gX6_reason_X8_gather : GoodIn wsX6_reason (wsV RX6 22 RX8 yX8_gather wsX8_gather) := goodIn_app (goodIn_of _ (by decide +kernel)) ggX6_reason_X8_gather
set_option maxRecDepth 20000 in
set_option maxRecDepth 100000 in
theorem ggX6_reason_J6_bitCount_0f7a4 : GoodIn wsX6_reason wsJ6_bitCount_0f7a4 := goodIn_r _ [55, 56, 57, 58] rfl (by decide +kernel)
set_option maxRecDepth 20000 in
theorem gX6_reason_J6_bitCount_0f7a4 : GoodIn wsX6_reason (va_wsS RX6 34 yJ6_bitCount_0f7a4 wsJ6_bitCount_0f7a4) := goodIn_app (goodIn_of _ (by decide +kernel)) ggX6_reason_J6_bitCount_0f7a4
set_option maxRecDepth 20000 in
set_option maxRecDepth 100000 in
theorem ggX6_reason_X6_followAsking : GoodIn wsX6_reason wsX6_followAsking := goodIn_r _ [63, 1, 2, 5, 64, 65, 66, 67, 68, 62, 69, 3, 70, 71, 72, 73, 74, 75, 76, 77, 78, 79, 80, 81, 82, 83, 84, 85, 86, 87, 88, 89, 90, 91, 92, 93, 94, 95, 96, 97] rfl (by decide +kernel)
set_option maxRecDepth 20000 in
theorem gX6_reason_X6_followAsking : GoodIn wsX6_reason (wsV RX6 43 RX6 yX6_followAsking wsX6_followAsking) := goodIn_app (goodIn_of _ (by decide +kernel)) ggX6_reason_X6_followAsking
set_option maxRecDepth 20000 in
set_option maxRecDepth 100000 in
theorem ggX6_reason_X11_isIn : GoodIn wsX6_reason wsX11_isIn := goodIn_r _ [72] rfl (by decide +kernel)
set_option maxRecDepth 20000 in
theorem gX6_reason_X11_isIn_n46 : GoodIn wsX6_reason (wsX11_isIn) := ggX6_reason_X11_isIn
theorem dX6_reason_0 : decode cX6_reason 0 = .ok (.aload_n 0, 1) := by decide +kernel
theorem dX6_reason_1 : decode cX6_reason 1 = .ok (.getfield 18, 3) := by decide +kernel
theorem dX6_reason_4 : decode cX6_reason 4 = .ok (.invokevirtual 22, 3) := by decide +kernel
theorem dX6_reason_7 : decode cX6_reason 7 = .ok (.iconst 0, 1) := by decide +kernel
theorem dX6_reason_8 : decode cX6_reason 8 = .ok (.istore_n 1, 1) := by decide +kernel
theorem dX6_reason_9 : decode cX6_reason 9 = .ok (.iload_n 1, 1) := by decide +kernel
theorem dX6_reason_10 : decode cX6_reason 10 = .ok (.aload_n 0, 1) := by decide +kernel
theorem dX6_reason_11 : decode cX6_reason 11 = .ok (.getfield 18, 3) := by decide +kernel
theorem dX6_reason_14 : decode cX6_reason 14 = .ok (.getfield 27, 3) := by decide +kernel
theorem dX6_reason_17 : decode cX6_reason 17 = .ok (.if_icmp .ge 39, 3) := by decide +kernel
theorem dX6_reason_20 : decode cX6_reason 20 = .ok (.aload_n 0, 1) := by decide +kernel
theorem dX6_reason_21 : decode cX6_reason 21 = .ok (.getfield 18, 3) := by decide +kernel
theorem dX6_reason_24 : decode cX6_reason 24 = .ok (.getfield 31, 3) := by decide +kernel
theorem dX6_reason_27 : decode cX6_reason 27 = .ok (.iload_n 1, 1) := by decide +kernel
theorem dX6_reason_28 : decode cX6_reason 28 = .ok (.iaload, 1) := by decide +kernel
theorem dX6_reason_29 : decode cX6_reason 29 = .ok (.invokestatic 34, 3) := by decide +kernel
theorem dX6_reason_32 : decode cX6_reason 32 = .ok (.iconst 1, 1) := by decide +kernel
theorem dX6_reason_33 : decode cX6_reason 33 = .ok (.if_icmp .le 17, 3) := by decide +kernel
theorem dX6_reason_36 : decode cX6_reason 36 = .ok (.bipush 100, 2) := by decide +kernel
theorem dX6_reason_38 : decode cX6_reason 38 = .ok (.aload_n 0, 1) := by decide +kernel
theorem dX6_reason_39 : decode cX6_reason 39 = .ok (.getfield 18, 3) := by decide +kernel
theorem dX6_reason_42 : decode cX6_reason 42 = .ok (.getfield 40, 3) := by decide +kernel
theorem dX6_reason_45 : decode cX6_reason 45 = .ok (.iload_n 1, 1) := by decide +kernel
theorem dX6_reason_46 : decode cX6_reason 46 = .ok (.iaload, 1) := by decide +kernel
theorem dX6_reason_47 : decode cX6_reason 47 = .ok (.iadd, 1) := by decide +kernel
theorem dX6_reason_48 : decode cX6_reason 48 = .ok (.i2l, 1) := by decide +kernel
theorem dX6_reason_49 : decode cX6_reason 49 = .ok (.lreturn, 1) := by decide +kernel
theorem dX6_reason_50 : decode cX6_reason 50 = .ok (.iinc 1 1, 3) := by decide +kernel
theorem dX6_reason_53 : decode cX6_reason 53 = .ok (.goto (-44), 3) := by decide +kernel
theorem dX6_reason_56 : decode cX6_reason 56 = .ok (.aload_n 0, 1) := by decide +kernel
theorem dX6_reason_57 : decode cX6_reason 57 = .ok (.invokevirtual 43, 3) := by decide +kernel
theorem dX6_reason_60 : decode cX6_reason 60 = .ok (.iconst 0, 1) := by decide +kernel
theorem dX6_reason_61 : decode cX6_reason 61 = .ok (.istore_n 1, 1) := by decide +kernel
theorem dX6_reason_62 : decode cX6_reason 62 = .ok (.iload_n 1, 1) := by decide +kernel
theorem dX6_reason_63 : decode cX6_reason 63 = .ok (.aload_n 0, 1) := by decide +kernel
theorem dX6_reason_64 : decode cX6_reason 64 = .ok (.getfield 18, 3) := by decide +kernel
theorem dX6_reason_67 : decode cX6_reason 67 = .ok (.getfield 27, 3) := by decide +kernel
theorem dX6_reason_70 : decode cX6_reason 70 = .ok (.if_icmp .ge 33, 3) := by decide +kernel
theorem dX6_reason_73 : decode cX6_reason 73 = .ok (.aload_n 0, 1) := by decide +kernel
theorem dX6_reason_74 : decode cX6_reason 74 = .ok (.getfield 9, 3) := by decide +kernel
theorem dX6_reason_77 : decode cX6_reason 77 = .ok (.iload_n 1, 1) := by decide +kernel
theorem dX6_reason_78 : decode cX6_reason 78 = .ok (.iaload, 1) := by decide +kernel
theorem dX6_reason_79 : decode cX6_reason 79 = .ok (.iload_n 1, 1) := by decide +kernel
theorem dX6_reason_80 : decode cX6_reason 80 = .ok (.invokestatic 46, 3) := by decide +kernel
theorem dX6_reason_83 : decode cX6_reason 83 = .ok (.ifCond .eq 14, 3) := by decide +kernel
theorem dX6_reason_86 : decode cX6_reason 86 = .ok (.aload_n 0, 1) := by decide +kernel
theorem dX6_reason_87 : decode cX6_reason 87 = .ok (.getfield 18, 3) := by decide +kernel
theorem dX6_reason_90 : decode cX6_reason 90 = .ok (.getfield 40, 3) := by decide +kernel
theorem dX6_reason_93 : decode cX6_reason 93 = .ok (.iload_n 1, 1) := by decide +kernel
theorem dX6_reason_94 : decode cX6_reason 94 = .ok (.iaload, 1) := by decide +kernel
theorem dX6_reason_95 : decode cX6_reason 95 = .ok (.i2l, 1) := by decide +kernel
theorem dX6_reason_96 : decode cX6_reason 96 = .ok (.lreturn, 1) := by decide +kernel
theorem dX6_reason_97 : decode cX6_reason 97 = .ok (.iinc 1 1, 3) := by decide +kernel
theorem dX6_reason_100 : decode cX6_reason 100 = .ok (.goto (-38), 3) := by decide +kernel
theorem dX6_reason_103 : decode cX6_reason 103 = .ok (.ldc2_w 50, 3) := by decide +kernel
theorem dX6_reason_106 : decode cX6_reason 106 = .ok (.lreturn, 1) := by decide +kernel
set_option maxRecDepth 20000 in
set_option maxRecDepth 100000 in
theorem ggX6_followAsking_X6_blockOf : GoodIn wsX6_followAsking wsX6_blockOf := goodIn_r _ [10, 1, 2, 11, 12, 13, 14, 27, 28, 29, 30, 31, 32, 33, 34, 35, 36, 37, 38, 39] rfl (by decide +kernel)
set_option maxRecDepth 20000 in
theorem gX6_followAsking_X6_blockOf : GoodIn wsX6_followAsking (wsV RX6 55 RX6 yX6_blockOf wsX6_blockOf) := goodIn_app (goodIn_of _ (by decide +kernel)) ggX6_followAsking_X6_blockOf
set_option maxRecDepth 20000 in
set_option maxRecDepth 100000 in
theorem ggX6_followAsking_X6_leadOn : GoodIn wsX6_followAsking wsX6_leadOn := goodIn_r _ [18, 1, 2, 3, 12, 13, 14, 19, 20, 21, 9, 22, 27, 28, 29, 30, 31, 32, 33, 34, 35, 36, 37, 38, 39] rfl (by decide +kernel)
set_option maxRecDepth 20000 in
theorem gX6_followAsking_X6_leadOn : GoodIn wsX6_followAsking (wsV RX6 58 RX6 yX6_leadOn wsX6_leadOn) := goodIn_app (goodIn_of _ (by decide +kernel)) ggX6_followAsking_X6_leadOn
set_option maxRecDepth 20000 in
set_option maxRecDepth 100000 in
theorem ggX6_followAsking_X6_leadAsBlock : GoodIn wsX6_followAsking wsX6_leadAsBlock := goodIn_r _ [26, 1, 2, 3, 12, 13, 14, 19, 20, 21, 9, 22, 27, 28, 29, 30, 31, 32, 33, 34, 35, 36, 37, 38, 39] rfl (by decide +kernel)
set_option maxRecDepth 20000 in
theorem gX6_followAsking_X6_leadAsBlock : GoodIn wsX6_followAsking (wsV RX6 62 RX6 yX6_leadAsBlock wsX6_leadAsBlock) := goodIn_app (goodIn_of _ (by decide +kernel)) ggX6_followAsking_X6_leadAsBlock
theorem dX6_followAsking_0 : decode cX6_followAsking 0 = .ok (.iconst 0, 1) := by decide +kernel
theorem dX6_followAsking_1 : decode cX6_followAsking 1 = .ok (.istore_n 1, 1) := by decide +kernel
theorem dX6_followAsking_2 : decode cX6_followAsking 2 = .ok (.iload_n 1, 1) := by decide +kernel
theorem dX6_followAsking_3 : decode cX6_followAsking 3 = .ok (.aload_n 0, 1) := by decide +kernel
theorem dX6_followAsking_4 : decode cX6_followAsking 4 = .ok (.getfield 18, 3) := by decide +kernel
theorem dX6_followAsking_7 : decode cX6_followAsking 7 = .ok (.getfield 27, 3) := by decide +kernel
theorem dX6_followAsking_10 : decode cX6_followAsking 10 = .ok (.if_icmp .ge 35, 3) := by decide +kernel
theorem dX6_followAsking_13 : decode cX6_followAsking 13 = .ok (.aload_n 0, 1) := by decide +kernel
theorem dX6_followAsking_14 : decode cX6_followAsking 14 = .ok (.getfield 9, 3) := by decide +kernel
theorem dX6_followAsking_17 : decode cX6_followAsking 17 = .ok (.iload_n 1, 1) := by decide +kernel
theorem dX6_followAsking_18 : decode cX6_followAsking 18 = .ok (.aload_n 0, 1) := by decide +kernel
theorem dX6_followAsking_19 : decode cX6_followAsking 19 = .ok (.getfield 18, 3) := by decide +kernel
theorem dX6_followAsking_22 : decode cX6_followAsking 22 = .ok (.getfield 52, 3) := by decide +kernel
theorem dX6_followAsking_25 : decode cX6_followAsking 25 = .ok (.iload_n 1, 1) := by decide +kernel
theorem dX6_followAsking_26 : decode cX6_followAsking 26 = .ok (.iaload, 1) := by decide +kernel
theorem dX6_followAsking_27 : decode cX6_followAsking 27 = .ok (.iastore, 1) := by decide +kernel
theorem dX6_followAsking_28 : decode cX6_followAsking 28 = .ok (.aload_n 0, 1) := by decide +kernel
theorem dX6_followAsking_29 : decode cX6_followAsking 29 = .ok (.getfield 15, 3) := by decide +kernel
theorem dX6_followAsking_32 : decode cX6_followAsking 32 = .ok (.iload_n 1, 1) := by decide +kernel
theorem dX6_followAsking_33 : decode cX6_followAsking 33 = .ok (.aload_n 0, 1) := by decide +kernel
theorem dX6_followAsking_34 : decode cX6_followAsking 34 = .ok (.iload_n 1, 1) := by decide +kernel
theorem dX6_followAsking_35 : decode cX6_followAsking 35 = .ok (.invokevirtual 55, 3) := by decide +kernel
theorem dX6_followAsking_38 : decode cX6_followAsking 38 = .ok (.iastore, 1) := by decide +kernel
theorem dX6_followAsking_39 : decode cX6_followAsking 39 = .ok (.iinc 1 1, 3) := by decide +kernel
theorem dX6_followAsking_42 : decode cX6_followAsking 42 = .ok (.goto (-40), 3) := by decide +kernel
theorem dX6_followAsking_45 : decode cX6_followAsking 45 = .ok (.iconst 0, 1) := by decide +kernel
theorem dX6_followAsking_46 : decode cX6_followAsking 46 = .ok (.istore_n 1, 1) := by decide +kernel
theorem dX6_followAsking_47 : decode cX6_followAsking 47 = .ok (.iload_n 1, 1) := by decide +kernel
theorem dX6_followAsking_48 : decode cX6_followAsking 48 = .ok (.sipush 145, 3) := by decide +kernel
theorem dX6_followAsking_51 : decode cX6_followAsking 51 = .ok (.if_icmp .ge 56, 3) := by decide +kernel
theorem dX6_followAsking_54 : decode cX6_followAsking 54 = .ok (.iconst 0, 1) := by decide +kernel
theorem dX6_followAsking_55 : decode cX6_followAsking 55 = .ok (.istore_n 2, 1) := by decide +kernel
theorem dX6_followAsking_56 : decode cX6_followAsking 56 = .ok (.iconst 0, 1) := by decide +kernel
theorem dX6_followAsking_57 : decode cX6_followAsking 57 = .ok (.istore_n 3, 1) := by decide +kernel
theorem dX6_followAsking_58 : decode cX6_followAsking 58 = .ok (.iload_n 3, 1) := by decide +kernel
theorem dX6_followAsking_59 : decode cX6_followAsking 59 = .ok (.aload_n 0, 1) := by decide +kernel
theorem dX6_followAsking_60 : decode cX6_followAsking 60 = .ok (.getfield 18, 3) := by decide +kernel
theorem dX6_followAsking_63 : decode cX6_followAsking 63 = .ok (.getfield 27, 3) := by decide +kernel
theorem dX6_followAsking_66 : decode cX6_followAsking 66 = .ok (.if_icmp .ge 30, 3) := by decide +kernel
theorem dX6_followAsking_69 : decode cX6_followAsking 69 = .ok (.iload_n 2, 1) := by decide +kernel
theorem dX6_followAsking_70 : decode cX6_followAsking 70 = .ok (.aload_n 0, 1) := by decide +kernel
theorem dX6_followAsking_71 : decode cX6_followAsking 71 = .ok (.iload_n 3, 1) := by decide +kernel
theorem dX6_followAsking_72 : decode cX6_followAsking 72 = .ok (.invokevirtual 58, 3) := by decide +kernel
theorem dX6_followAsking_75 : decode cX6_followAsking 75 = .ok (.ior, 1) := by decide +kernel
theorem dX6_followAsking_76 : decode cX6_followAsking 76 = .ok (.istore_n 2, 1) := by decide +kernel
theorem dX6_followAsking_77 : decode cX6_followAsking 77 = .ok (.iload_n 2, 1) := by decide +kernel
theorem dX6_followAsking_78 : decode cX6_followAsking 78 = .ok (.aload_n 0, 1) := by decide +kernel
theorem dX6_followAsking_79 : decode cX6_followAsking 79 = .ok (.aload_n 0, 1) := by decide +kernel
theorem dX6_followAsking_80 : decode cX6_followAsking 80 = .ok (.getfield 15, 3) := by decide +kernel
theorem dX6_followAsking_83 : decode cX6_followAsking 83 = .ok (.iload_n 3, 1) := by decide +kernel
theorem dX6_followAsking_84 : decode cX6_followAsking 84 = .ok (.iaload, 1) := by decide +kernel
theorem dX6_followAsking_85 : decode cX6_followAsking 85 = .ok (.invokevirtual 62, 3) := by decide +kernel
theorem dX6_followAsking_88 : decode cX6_followAsking 88 = .ok (.ior, 1) := by decide +kernel
theorem dX6_followAsking_89 : decode cX6_followAsking 89 = .ok (.istore_n 2, 1) := by decide +kernel
theorem dX6_followAsking_90 : decode cX6_followAsking 90 = .ok (.iinc 3 1, 3) := by decide +kernel
theorem dX6_followAsking_93 : decode cX6_followAsking 93 = .ok (.goto (-35), 3) := by decide +kernel
theorem dX6_followAsking_96 : decode cX6_followAsking 96 = .ok (.iload_n 2, 1) := by decide +kernel
theorem dX6_followAsking_97 : decode cX6_followAsking 97 = .ok (.ifCond .ne 4, 3) := by decide +kernel
theorem dX6_followAsking_100 : decode cX6_followAsking 100 = .ok (.return_, 1) := by decide +kernel
theorem dX6_followAsking_101 : decode cX6_followAsking 101 = .ok (.iinc 1 1, 3) := by decide +kernel
theorem dX6_followAsking_104 : decode cX6_followAsking 104 = .ok (.goto (-57), 3) := by decide +kernel
theorem dX6_followAsking_107 : decode cX6_followAsking 107 = .ok (.return_, 1) := by decide +kernel
set_option maxRecDepth 20000 in
set_option maxRecDepth 100000 in
theorem ggX6_blockOf_X11_isIn : GoodIn wsX6_blockOf wsX11_isIn := goodIn_r _ [6] rfl (by decide +kernel)
set_option maxRecDepth 20000 in
theorem gX6_blockOf_X11_isIn_n46 : GoodIn wsX6_blockOf (wsX11_isIn) := ggX6_blockOf_X11_isIn
theorem dX6_blockOf_0 : decode cX6_blockOf 0 = .ok (.iconst 1, 1) := by decide +kernel
theorem dX6_blockOf_1 : decode cX6_blockOf 1 = .ok (.iload_n 1, 1) := by decide +kernel
theorem dX6_blockOf_2 : decode cX6_blockOf 2 = .ok (.ishl, 1) := by decide +kernel
theorem dX6_blockOf_3 : decode cX6_blockOf 3 = .ok (.istore_n 2, 1) := by decide +kernel
theorem dX6_blockOf_4 : decode cX6_blockOf 4 = .ok (.iconst 0, 1) := by decide +kernel
theorem dX6_blockOf_5 : decode cX6_blockOf 5 = .ok (.istore_n 3, 1) := by decide +kernel
theorem dX6_blockOf_6 : decode cX6_blockOf 6 = .ok (.iload_n 3, 1) := by decide +kernel
theorem dX6_blockOf_7 : decode cX6_blockOf 7 = .ok (.aload_n 0, 1) := by decide +kernel
theorem dX6_blockOf_8 : decode cX6_blockOf 8 = .ok (.getfield 18, 3) := by decide +kernel
theorem dX6_blockOf_11 : decode cX6_blockOf 11 = .ok (.getfield 27, 3) := by decide +kernel
theorem dX6_blockOf_14 : decode cX6_blockOf 14 = .ok (.if_icmp .ge 52, 3) := by decide +kernel
theorem dX6_blockOf_17 : decode cX6_blockOf 17 = .ok (.iconst 0, 1) := by decide +kernel
theorem dX6_blockOf_18 : decode cX6_blockOf 18 = .ok (.istore 4, 2) := by decide +kernel
theorem dX6_blockOf_20 : decode cX6_blockOf 20 = .ok (.iload 4, 2) := by decide +kernel
theorem dX6_blockOf_22 : decode cX6_blockOf 22 = .ok (.aload_n 0, 1) := by decide +kernel
theorem dX6_blockOf_23 : decode cX6_blockOf 23 = .ok (.getfield 18, 3) := by decide +kernel
theorem dX6_blockOf_26 : decode cX6_blockOf 26 = .ok (.getfield 27, 3) := by decide +kernel
theorem dX6_blockOf_29 : decode cX6_blockOf 29 = .ok (.if_icmp .ge 31, 3) := by decide +kernel
theorem dX6_blockOf_32 : decode cX6_blockOf 32 = .ok (.iload_n 2, 1) := by decide +kernel
theorem dX6_blockOf_33 : decode cX6_blockOf 33 = .ok (.iload 4, 2) := by decide +kernel
theorem dX6_blockOf_35 : decode cX6_blockOf 35 = .ok (.invokestatic 46, 3) := by decide +kernel
theorem dX6_blockOf_38 : decode cX6_blockOf 38 = .ok (.ifCond .eq 16, 3) := by decide +kernel
theorem dX6_blockOf_41 : decode cX6_blockOf 41 = .ok (.iload_n 2, 1) := by decide +kernel
theorem dX6_blockOf_42 : decode cX6_blockOf 42 = .ok (.aload_n 0, 1) := by decide +kernel
theorem dX6_blockOf_43 : decode cX6_blockOf 43 = .ok (.getfield 18, 3) := by decide +kernel
theorem dX6_blockOf_46 : decode cX6_blockOf 46 = .ok (.getfield 31, 3) := by decide +kernel
theorem dX6_blockOf_49 : decode cX6_blockOf 49 = .ok (.iload 4, 2) := by decide +kernel
theorem dX6_blockOf_51 : decode cX6_blockOf 51 = .ok (.iaload, 1) := by decide +kernel
theorem dX6_blockOf_52 : decode cX6_blockOf 52 = .ok (.ior, 1) := by decide +kernel
theorem dX6_blockOf_53 : decode cX6_blockOf 53 = .ok (.istore_n 2, 1) := by decide +kernel
theorem dX6_blockOf_54 : decode cX6_blockOf 54 = .ok (.iinc 4 1, 3) := by decide +kernel
theorem dX6_blockOf_57 : decode cX6_blockOf 57 = .ok (.goto (-37), 3) := by decide +kernel
theorem dX6_blockOf_60 : decode cX6_blockOf 60 = .ok (.iinc 3 1, 3) := by decide +kernel
theorem dX6_blockOf_63 : decode cX6_blockOf 63 = .ok (.goto (-57), 3) := by decide +kernel
theorem dX6_blockOf_66 : decode cX6_blockOf 66 = .ok (.iload_n 2, 1) := by decide +kernel
theorem dX6_blockOf_67 : decode cX6_blockOf 67 = .ok (.ireturn, 1) := by decide +kernel
set_option maxRecDepth 20000 in
set_option maxRecDepth 100000 in
theorem ggX6_leadOn_X11_isIn : GoodIn wsX6_leadOn wsX11_isIn := goodIn_r _ [6] rfl (by decide +kernel)
set_option maxRecDepth 20000 in
theorem gX6_leadOn_X11_isIn_n46 : GoodIn wsX6_leadOn (wsX11_isIn) := ggX6_leadOn_X11_isIn
set_option maxRecDepth 20000 in
set_option maxRecDepth 100000 in
theorem ggX6_leadOn_X6_addLeads : GoodIn wsX6_leadOn wsX6_addLeads := goodIn_r _ [11, 3, 12, 13, 14] rfl (by decide +kernel)
set_option maxRecDepth 20000 in
theorem gX6_leadOn_X6_addLeads : GoodIn wsX6_leadOn (wsV RX6 65 RX6 yX6_addLeads wsX6_addLeads) := goodIn_app (goodIn_of _ (by decide +kernel)) ggX6_leadOn_X6_addLeads
theorem dX6_leadOn_0 : decode cX6_leadOn 0 = .ok (.iconst 0, 1) := by decide +kernel
theorem dX6_leadOn_1 : decode cX6_leadOn 1 = .ok (.istore_n 2, 1) := by decide +kernel
theorem dX6_leadOn_2 : decode cX6_leadOn 2 = .ok (.iconst 0, 1) := by decide +kernel
theorem dX6_leadOn_3 : decode cX6_leadOn 3 = .ok (.istore_n 3, 1) := by decide +kernel
theorem dX6_leadOn_4 : decode cX6_leadOn 4 = .ok (.iload_n 3, 1) := by decide +kernel
theorem dX6_leadOn_5 : decode cX6_leadOn 5 = .ok (.aload_n 0, 1) := by decide +kernel
theorem dX6_leadOn_6 : decode cX6_leadOn 6 = .ok (.getfield 18, 3) := by decide +kernel
theorem dX6_leadOn_9 : decode cX6_leadOn 9 = .ok (.getfield 27, 3) := by decide +kernel
theorem dX6_leadOn_12 : decode cX6_leadOn 12 = .ok (.if_icmp .ge 31, 3) := by decide +kernel
theorem dX6_leadOn_15 : decode cX6_leadOn 15 = .ok (.aload_n 0, 1) := by decide +kernel
theorem dX6_leadOn_16 : decode cX6_leadOn 16 = .ok (.getfield 9, 3) := by decide +kernel
theorem dX6_leadOn_19 : decode cX6_leadOn 19 = .ok (.iload_n 1, 1) := by decide +kernel
theorem dX6_leadOn_20 : decode cX6_leadOn 20 = .ok (.iaload, 1) := by decide +kernel
theorem dX6_leadOn_21 : decode cX6_leadOn 21 = .ok (.iload_n 3, 1) := by decide +kernel
theorem dX6_leadOn_22 : decode cX6_leadOn 22 = .ok (.invokestatic 46, 3) := by decide +kernel
theorem dX6_leadOn_25 : decode cX6_leadOn 25 = .ok (.ifCond .eq 12, 3) := by decide +kernel
theorem dX6_leadOn_28 : decode cX6_leadOn 28 = .ok (.iload_n 2, 1) := by decide +kernel
theorem dX6_leadOn_29 : decode cX6_leadOn 29 = .ok (.aload_n 0, 1) := by decide +kernel
theorem dX6_leadOn_30 : decode cX6_leadOn 30 = .ok (.getfield 9, 3) := by decide +kernel
theorem dX6_leadOn_33 : decode cX6_leadOn 33 = .ok (.iload_n 3, 1) := by decide +kernel
theorem dX6_leadOn_34 : decode cX6_leadOn 34 = .ok (.iaload, 1) := by decide +kernel
theorem dX6_leadOn_35 : decode cX6_leadOn 35 = .ok (.ior, 1) := by decide +kernel
theorem dX6_leadOn_36 : decode cX6_leadOn 36 = .ok (.istore_n 2, 1) := by decide +kernel
theorem dX6_leadOn_37 : decode cX6_leadOn 37 = .ok (.iinc 3 1, 3) := by decide +kernel
theorem dX6_leadOn_40 : decode cX6_leadOn 40 = .ok (.goto (-36), 3) := by decide +kernel
theorem dX6_leadOn_43 : decode cX6_leadOn 43 = .ok (.aload_n 0, 1) := by decide +kernel
theorem dX6_leadOn_44 : decode cX6_leadOn 44 = .ok (.iload_n 1, 1) := by decide +kernel
theorem dX6_leadOn_45 : decode cX6_leadOn 45 = .ok (.iload_n 2, 1) := by decide +kernel
theorem dX6_leadOn_46 : decode cX6_leadOn 46 = .ok (.invokevirtual 65, 3) := by decide +kernel
theorem dX6_leadOn_49 : decode cX6_leadOn 49 = .ok (.ireturn, 1) := by decide +kernel
set_option maxRecDepth 20000 in
set_option maxRecDepth 100000 in
theorem ggX6_leadAsBlock_X11_isIn : GoodIn wsX6_leadAsBlock wsX11_isIn := goodIn_r _ [6] rfl (by decide +kernel)
set_option maxRecDepth 20000 in
theorem gX6_leadAsBlock_X11_isIn_n46 : GoodIn wsX6_leadAsBlock (wsX11_isIn) := ggX6_leadAsBlock_X11_isIn
set_option maxRecDepth 20000 in
set_option maxRecDepth 100000 in
theorem ggX6_leadAsBlock_X6_addLeads : GoodIn wsX6_leadAsBlock wsX6_addLeads := goodIn_r _ [11, 3, 12, 13, 14] rfl (by decide +kernel)
set_option maxRecDepth 20000 in
theorem gX6_leadAsBlock_X6_addLeads : GoodIn wsX6_leadAsBlock (wsV RX6 65 RX6 yX6_addLeads wsX6_addLeads) := goodIn_app (goodIn_of _ (by decide +kernel)) ggX6_leadAsBlock_X6_addLeads
theorem dX6_leadAsBlock_0 : decode cX6_leadAsBlock 0 = .ok (.iconst 0, 1) := by decide +kernel
theorem dX6_leadAsBlock_1 : decode cX6_leadAsBlock 1 = .ok (.istore_n 2, 1) := by decide +kernel
theorem dX6_leadAsBlock_2 : decode cX6_leadAsBlock 2 = .ok (.iconst 0, 1) := by decide +kernel
theorem dX6_leadAsBlock_3 : decode cX6_leadAsBlock 3 = .ok (.istore_n 3, 1) := by decide +kernel
theorem dX6_leadAsBlock_4 : decode cX6_leadAsBlock 4 = .ok (.iload_n 3, 1) := by decide +kernel
theorem dX6_leadAsBlock_5 : decode cX6_leadAsBlock 5 = .ok (.aload_n 0, 1) := by decide +kernel
theorem dX6_leadAsBlock_6 : decode cX6_leadAsBlock 6 = .ok (.getfield 18, 3) := by decide +kernel
theorem dX6_leadAsBlock_9 : decode cX6_leadAsBlock 9 = .ok (.getfield 27, 3) := by decide +kernel
theorem dX6_leadAsBlock_12 : decode cX6_leadAsBlock 12 = .ok (.if_icmp .ge 30, 3) := by decide +kernel
theorem dX6_leadAsBlock_15 : decode cX6_leadAsBlock 15 = .ok (.iload_n 1, 1) := by decide +kernel
theorem dX6_leadAsBlock_16 : decode cX6_leadAsBlock 16 = .ok (.iload_n 3, 1) := by decide +kernel
theorem dX6_leadAsBlock_17 : decode cX6_leadAsBlock 17 = .ok (.invokestatic 46, 3) := by decide +kernel
theorem dX6_leadAsBlock_20 : decode cX6_leadAsBlock 20 = .ok (.ifCond .eq 16, 3) := by decide +kernel
theorem dX6_leadAsBlock_23 : decode cX6_leadAsBlock 23 = .ok (.iload_n 2, 1) := by decide +kernel
theorem dX6_leadAsBlock_24 : decode cX6_leadAsBlock 24 = .ok (.aload_n 0, 1) := by decide +kernel
theorem dX6_leadAsBlock_25 : decode cX6_leadAsBlock 25 = .ok (.getfield 9, 3) := by decide +kernel
theorem dX6_leadAsBlock_28 : decode cX6_leadAsBlock 28 = .ok (.iload_n 3, 1) := by decide +kernel
theorem dX6_leadAsBlock_29 : decode cX6_leadAsBlock 29 = .ok (.iaload, 1) := by decide +kernel
theorem dX6_leadAsBlock_30 : decode cX6_leadAsBlock 30 = .ok (.iload_n 1, 1) := by decide +kernel
theorem dX6_leadAsBlock_31 : decode cX6_leadAsBlock 31 = .ok (.iconst (-1), 1) := by decide +kernel
theorem dX6_leadAsBlock_32 : decode cX6_leadAsBlock 32 = .ok (.ixor, 1) := by decide +kernel
theorem dX6_leadAsBlock_33 : decode cX6_leadAsBlock 33 = .ok (.iand, 1) := by decide +kernel
theorem dX6_leadAsBlock_34 : decode cX6_leadAsBlock 34 = .ok (.ior, 1) := by decide +kernel
theorem dX6_leadAsBlock_35 : decode cX6_leadAsBlock 35 = .ok (.istore_n 2, 1) := by decide +kernel
theorem dX6_leadAsBlock_36 : decode cX6_leadAsBlock 36 = .ok (.iinc 3 1, 3) := by decide +kernel
theorem dX6_leadAsBlock_39 : decode cX6_leadAsBlock 39 = .ok (.goto (-35), 3) := by decide +kernel
theorem dX6_leadAsBlock_42 : decode cX6_leadAsBlock 42 = .ok (.iconst 0, 1) := by decide +kernel
theorem dX6_leadAsBlock_43 : decode cX6_leadAsBlock 43 = .ok (.istore_n 3, 1) := by decide +kernel
theorem dX6_leadAsBlock_44 : decode cX6_leadAsBlock 44 = .ok (.iconst 0, 1) := by decide +kernel
theorem dX6_leadAsBlock_45 : decode cX6_leadAsBlock 45 = .ok (.istore 4, 2) := by decide +kernel
theorem dX6_leadAsBlock_47 : decode cX6_leadAsBlock 47 = .ok (.iload 4, 2) := by decide +kernel
theorem dX6_leadAsBlock_49 : decode cX6_leadAsBlock 49 = .ok (.aload_n 0, 1) := by decide +kernel
theorem dX6_leadAsBlock_50 : decode cX6_leadAsBlock 50 = .ok (.getfield 18, 3) := by decide +kernel
theorem dX6_leadAsBlock_53 : decode cX6_leadAsBlock 53 = .ok (.getfield 27, 3) := by decide +kernel
theorem dX6_leadAsBlock_56 : decode cX6_leadAsBlock 56 = .ok (.if_icmp .ge 53, 3) := by decide +kernel
theorem dX6_leadAsBlock_59 : decode cX6_leadAsBlock 59 = .ok (.iload_n 1, 1) := by decide +kernel
theorem dX6_leadAsBlock_60 : decode cX6_leadAsBlock 60 = .ok (.iload 4, 2) := by decide +kernel
theorem dX6_leadAsBlock_62 : decode cX6_leadAsBlock 62 = .ok (.invokestatic 46, 3) := by decide +kernel
theorem dX6_leadAsBlock_65 : decode cX6_leadAsBlock 65 = .ok (.ifCond .eq 16, 3) := by decide +kernel
theorem dX6_leadAsBlock_68 : decode cX6_leadAsBlock 68 = .ok (.iload_n 3, 1) := by decide +kernel
theorem dX6_leadAsBlock_69 : decode cX6_leadAsBlock 69 = .ok (.aload_n 0, 1) := by decide +kernel
theorem dX6_leadAsBlock_70 : decode cX6_leadAsBlock 70 = .ok (.iload 4, 2) := by decide +kernel
theorem dX6_leadAsBlock_72 : decode cX6_leadAsBlock 72 = .ok (.iload_n 2, 1) := by decide +kernel
theorem dX6_leadAsBlock_73 : decode cX6_leadAsBlock 73 = .ok (.invokevirtual 65, 3) := by decide +kernel
theorem dX6_leadAsBlock_76 : decode cX6_leadAsBlock 76 = .ok (.ior, 1) := by decide +kernel
theorem dX6_leadAsBlock_77 : decode cX6_leadAsBlock 77 = .ok (.istore_n 3, 1) := by decide +kernel
theorem dX6_leadAsBlock_78 : decode cX6_leadAsBlock 78 = .ok (.goto 25, 3) := by decide +kernel
theorem dX6_leadAsBlock_81 : decode cX6_leadAsBlock 81 = .ok (.aload_n 0, 1) := by decide +kernel
theorem dX6_leadAsBlock_82 : decode cX6_leadAsBlock 82 = .ok (.getfield 9, 3) := by decide +kernel
theorem dX6_leadAsBlock_85 : decode cX6_leadAsBlock 85 = .ok (.iload 4, 2) := by decide +kernel
theorem dX6_leadAsBlock_87 : decode cX6_leadAsBlock 87 = .ok (.iaload, 1) := by decide +kernel
theorem dX6_leadAsBlock_88 : decode cX6_leadAsBlock 88 = .ok (.iload_n 1, 1) := by decide +kernel
theorem dX6_leadAsBlock_89 : decode cX6_leadAsBlock 89 = .ok (.iand, 1) := by decide +kernel
theorem dX6_leadAsBlock_90 : decode cX6_leadAsBlock 90 = .ok (.ifCond .eq 13, 3) := by decide +kernel
theorem dX6_leadAsBlock_93 : decode cX6_leadAsBlock 93 = .ok (.iload_n 3, 1) := by decide +kernel
theorem dX6_leadAsBlock_94 : decode cX6_leadAsBlock 94 = .ok (.aload_n 0, 1) := by decide +kernel
theorem dX6_leadAsBlock_95 : decode cX6_leadAsBlock 95 = .ok (.iload 4, 2) := by decide +kernel
theorem dX6_leadAsBlock_97 : decode cX6_leadAsBlock 97 = .ok (.iload_n 1, 1) := by decide +kernel
theorem dX6_leadAsBlock_98 : decode cX6_leadAsBlock 98 = .ok (.invokevirtual 65, 3) := by decide +kernel
theorem dX6_leadAsBlock_101 : decode cX6_leadAsBlock 101 = .ok (.ior, 1) := by decide +kernel
theorem dX6_leadAsBlock_102 : decode cX6_leadAsBlock 102 = .ok (.istore_n 3, 1) := by decide +kernel
theorem dX6_leadAsBlock_103 : decode cX6_leadAsBlock 103 = .ok (.iinc 4 1, 3) := by decide +kernel
theorem dX6_leadAsBlock_106 : decode cX6_leadAsBlock 106 = .ok (.goto (-59), 3) := by decide +kernel
theorem dX6_leadAsBlock_109 : decode cX6_leadAsBlock 109 = .ok (.iload_n 3, 1) := by decide +kernel
theorem dX6_leadAsBlock_110 : decode cX6_leadAsBlock 110 = .ok (.ireturn, 1) := by decide +kernel
theorem dX6_addLeads_0 : decode cX6_addLeads 0 = .ok (.aload_n 0, 1) := by decide +kernel
theorem dX6_addLeads_1 : decode cX6_addLeads 1 = .ok (.getfield 9, 3) := by decide +kernel
theorem dX6_addLeads_4 : decode cX6_addLeads 4 = .ok (.iload_n 1, 1) := by decide +kernel
theorem dX6_addLeads_5 : decode cX6_addLeads 5 = .ok (.iaload, 1) := by decide +kernel
theorem dX6_addLeads_6 : decode cX6_addLeads 6 = .ok (.istore_n 3, 1) := by decide +kernel
theorem dX6_addLeads_7 : decode cX6_addLeads 7 = .ok (.aload_n 0, 1) := by decide +kernel
theorem dX6_addLeads_8 : decode cX6_addLeads 8 = .ok (.getfield 9, 3) := by decide +kernel
theorem dX6_addLeads_11 : decode cX6_addLeads 11 = .ok (.iload_n 1, 1) := by decide +kernel
theorem dX6_addLeads_12 : decode cX6_addLeads 12 = .ok (.dup2, 1) := by decide +kernel
theorem dX6_addLeads_13 : decode cX6_addLeads 13 = .ok (.iaload, 1) := by decide +kernel
theorem dX6_addLeads_14 : decode cX6_addLeads 14 = .ok (.iload_n 2, 1) := by decide +kernel
theorem dX6_addLeads_15 : decode cX6_addLeads 15 = .ok (.ior, 1) := by decide +kernel
theorem dX6_addLeads_16 : decode cX6_addLeads 16 = .ok (.iastore, 1) := by decide +kernel
theorem dX6_addLeads_17 : decode cX6_addLeads 17 = .ok (.aload_n 0, 1) := by decide +kernel
theorem dX6_addLeads_18 : decode cX6_addLeads 18 = .ok (.getfield 9, 3) := by decide +kernel
theorem dX6_addLeads_21 : decode cX6_addLeads 21 = .ok (.iload_n 1, 1) := by decide +kernel
theorem dX6_addLeads_22 : decode cX6_addLeads 22 = .ok (.iaload, 1) := by decide +kernel
theorem dX6_addLeads_23 : decode cX6_addLeads 23 = .ok (.iload_n 3, 1) := by decide +kernel
theorem dX6_addLeads_24 : decode cX6_addLeads 24 = .ok (.if_icmp .eq 7, 3) := by decide +kernel
theorem dX6_addLeads_27 : decode cX6_addLeads 27 = .ok (.iconst 1, 1) := by decide +kernel
theorem dX6_addLeads_28 : decode cX6_addLeads 28 = .ok (.goto 4, 3) := by decide +kernel
theorem dX6_addLeads_31 : decode cX6_addLeads 31 = .ok (.iconst 0, 1) := by decide +kernel
theorem dX6_addLeads_32 : decode cX6_addLeads 32 = .ok (.ireturn, 1) := by decide +kernel
theorem dX7_init_0 : decode cX7_init 0 = .ok (.aload_n 0, 1) := by decide +kernel
theorem dX7_init_1 : decode cX7_init 1 = .ok (.invokespecial 3, 3) := by decide +kernel
theorem dX7_init_4 : decode cX7_init 4 = .ok (.aload_n 0, 1) := by decide +kernel
theorem dX7_init_5 : decode cX7_init 5 = .ok (.bipush 12, 2) := by decide +kernel
theorem dX7_init_7 : decode cX7_init 7 = .ok (.newarray .int, 2) := by decide +kernel
theorem dX7_init_9 : decode cX7_init 9 = .ok (.putfield 9, 3) := by decide +kernel
theorem dX7_init_12 : decode cX7_init 12 = .ok (.aload_n 0, 1) := by decide +kernel
theorem dX7_init_13 : decode cX7_init 13 = .ok (.bipush 12, 2) := by decide +kernel
theorem dX7_init_15 : decode cX7_init 15 = .ok (.newarray .int, 2) := by decide +kernel
theorem dX7_init_17 : decode cX7_init 17 = .ok (.putfield 15, 3) := by decide +kernel
theorem dX7_init_20 : decode cX7_init 20 = .ok (.aload_n 0, 1) := by decide +kernel
theorem dX7_init_21 : decode cX7_init 21 = .ok (.bipush 12, 2) := by decide +kernel
theorem dX7_init_23 : decode cX7_init 23 = .ok (.newarray .int, 2) := by decide +kernel
theorem dX7_init_25 : decode cX7_init 25 = .ok (.putfield 18, 3) := by decide +kernel
theorem dX7_init_28 : decode cX7_init 28 = .ok (.aload_n 0, 1) := by decide +kernel
theorem dX7_init_29 : decode cX7_init 29 = .ok (.aload_n 1, 1) := by decide +kernel
theorem dX7_init_30 : decode cX7_init 30 = .ok (.putfield 21, 3) := by decide +kernel
theorem dX7_init_33 : decode cX7_init 33 = .ok (.return_, 1) := by decide +kernel
set_option maxRecDepth 20000 in
set_option maxRecDepth 100000 in
theorem ggX7_readFrom_X8_gather : GoodIn wsX7_readFrom wsX8_gather := goodIn_r _ [12, 13, 14, 15, 16, 17, 18, 19, 20, 21, 22, 23, 24, 25, 26, 27, 28, 29, 30, 31, 32, 33, 34, 35, 36, 37, 11, 38, 39, 40, 41, 42, 43, 44, 45, 46, 47, 48, 49, 50, 51, 52, 59, 60, 61, 62, 63, 64, 65, 66, 67, 68, 69, 70, 71, 72, 73, 74, 75] rfl (by decide +kernel)
set_option maxRecDepth 20000 in
theorem gX7_readFrom_X8_gather : GoodIn wsX7_readFrom (wsV RX7 25 RX8 yX8_gather wsX8_gather) := goodIn_app (goodIn_of _ (by decide +kernel)) ggX7_readFrom_X8_gather
theorem dX7_readFrom_0 : decode cX7_readFrom 0 = .ok (.aload_n 0, 1) := by decide +kernel
theorem dX7_readFrom_1 : decode cX7_readFrom 1 = .ok (.getfield 21, 3) := by decide +kernel
theorem dX7_readFrom_4 : decode cX7_readFrom 4 = .ok (.invokevirtual 25, 3) := by decide +kernel
theorem dX7_readFrom_7 : decode cX7_readFrom 7 = .ok (.aload_n 1, 1) := by decide +kernel
theorem dX7_readFrom_8 : decode cX7_readFrom 8 = .ok (.getfield 30, 3) := by decide +kernel
theorem dX7_readFrom_11 : decode cX7_readFrom 11 = .ok (.aload_n 0, 1) := by decide +kernel
theorem dX7_readFrom_12 : decode cX7_readFrom 12 = .ok (.getfield 21, 3) := by decide +kernel
theorem dX7_readFrom_15 : decode cX7_readFrom 15 = .ok (.getfield 36, 3) := by decide +kernel
theorem dX7_readFrom_18 : decode cX7_readFrom 18 = .ok (.if_icmp .eq 5, 3) := by decide +kernel
theorem dX7_readFrom_21 : decode cX7_readFrom 21 = .ok (.iconst 0, 1) := by decide +kernel
theorem dX7_readFrom_22 : decode cX7_readFrom 22 = .ok (.ireturn, 1) := by decide +kernel
theorem dX7_readFrom_23 : decode cX7_readFrom 23 = .ok (.iconst 0, 1) := by decide +kernel
theorem dX7_readFrom_24 : decode cX7_readFrom 24 = .ok (.istore_n 2, 1) := by decide +kernel
theorem dX7_readFrom_25 : decode cX7_readFrom 25 = .ok (.iload_n 2, 1) := by decide +kernel
theorem dX7_readFrom_26 : decode cX7_readFrom 26 = .ok (.aload_n 1, 1) := by decide +kernel
theorem dX7_readFrom_27 : decode cX7_readFrom 27 = .ok (.getfield 30, 3) := by decide +kernel
theorem dX7_readFrom_30 : decode cX7_readFrom 30 = .ok (.if_icmp .ge 45, 3) := by decide +kernel
theorem dX7_readFrom_33 : decode cX7_readFrom 33 = .ok (.aload_n 0, 1) := by decide +kernel
theorem dX7_readFrom_34 : decode cX7_readFrom 34 = .ok (.getfield 21, 3) := by decide +kernel
theorem dX7_readFrom_37 : decode cX7_readFrom 37 = .ok (.getfield 37, 3) := by decide +kernel
theorem dX7_readFrom_40 : decode cX7_readFrom 40 = .ok (.aload_n 1, 1) := by decide +kernel
theorem dX7_readFrom_41 : decode cX7_readFrom 41 = .ok (.getfield 40, 3) := by decide +kernel
theorem dX7_readFrom_44 : decode cX7_readFrom 44 = .ok (.iload_n 2, 1) := by decide +kernel
theorem dX7_readFrom_45 : decode cX7_readFrom 45 = .ok (.iaload, 1) := by decide +kernel
theorem dX7_readFrom_46 : decode cX7_readFrom 46 = .ok (.iaload, 1) := by decide +kernel
theorem dX7_readFrom_47 : decode cX7_readFrom 47 = .ok (.istore_n 3, 1) := by decide +kernel
theorem dX7_readFrom_48 : decode cX7_readFrom 48 = .ok (.iload_n 3, 1) := by decide +kernel
theorem dX7_readFrom_49 : decode cX7_readFrom 49 = .ok (.iconst (-1), 1) := by decide +kernel
theorem dX7_readFrom_50 : decode cX7_readFrom 50 = .ok (.if_icmp .ne 5, 3) := by decide +kernel
theorem dX7_readFrom_53 : decode cX7_readFrom 53 = .ok (.iconst 0, 1) := by decide +kernel
theorem dX7_readFrom_54 : decode cX7_readFrom 54 = .ok (.ireturn, 1) := by decide +kernel
theorem dX7_readFrom_55 : decode cX7_readFrom 55 = .ok (.aload_n 0, 1) := by decide +kernel
theorem dX7_readFrom_56 : decode cX7_readFrom 56 = .ok (.getfield 9, 3) := by decide +kernel
theorem dX7_readFrom_59 : decode cX7_readFrom 59 = .ok (.iload_n 2, 1) := by decide +kernel
theorem dX7_readFrom_60 : decode cX7_readFrom 60 = .ok (.iload_n 3, 1) := by decide +kernel
theorem dX7_readFrom_61 : decode cX7_readFrom 61 = .ok (.iastore, 1) := by decide +kernel
theorem dX7_readFrom_62 : decode cX7_readFrom 62 = .ok (.aload_n 0, 1) := by decide +kernel
theorem dX7_readFrom_63 : decode cX7_readFrom 63 = .ok (.getfield 15, 3) := by decide +kernel
theorem dX7_readFrom_66 : decode cX7_readFrom 66 = .ok (.iload_n 3, 1) := by decide +kernel
theorem dX7_readFrom_67 : decode cX7_readFrom 67 = .ok (.iload_n 2, 1) := by decide +kernel
theorem dX7_readFrom_68 : decode cX7_readFrom 68 = .ok (.iastore, 1) := by decide +kernel
theorem dX7_readFrom_69 : decode cX7_readFrom 69 = .ok (.iinc 2 1, 3) := by decide +kernel
theorem dX7_readFrom_72 : decode cX7_readFrom 72 = .ok (.goto (-47), 3) := by decide +kernel
theorem dX7_readFrom_75 : decode cX7_readFrom 75 = .ok (.iconst 1, 1) := by decide +kernel
theorem dX7_readFrom_76 : decode cX7_readFrom 76 = .ok (.ireturn, 1) := by decide +kernel
set_option maxRecDepth 20000 in
set_option maxRecDepth 100000 in
theorem ggX7_writeTo_X5_append : GoodIn wsX7_writeTo wsX5_append := goodIn_r _ [10, 11, 12, 13, 14] rfl (by decide +kernel)
set_option maxRecDepth 20000 in
theorem gX7_writeTo_X5_append : GoodIn wsX7_writeTo (wsV RX7 44 RX5 yX5_append wsX5_append) := goodIn_app (goodIn_of _ (by decide +kernel)) ggX7_writeTo_X5_append
theorem dX7_writeTo_0 : decode cX7_writeTo 0 = .ok (.aload_n 1, 1) := by decide +kernel
theorem dX7_writeTo_1 : decode cX7_writeTo 1 = .ok (.iconst 0, 1) := by decide +kernel
theorem dX7_writeTo_2 : decode cX7_writeTo 2 = .ok (.putfield 30, 3) := by decide +kernel
theorem dX7_writeTo_5 : decode cX7_writeTo 5 = .ok (.iconst 0, 1) := by decide +kernel
theorem dX7_writeTo_6 : decode cX7_writeTo 6 = .ok (.istore_n 2, 1) := by decide +kernel
theorem dX7_writeTo_7 : decode cX7_writeTo 7 = .ok (.iload_n 2, 1) := by decide +kernel
theorem dX7_writeTo_8 : decode cX7_writeTo 8 = .ok (.aload_n 0, 1) := by decide +kernel
theorem dX7_writeTo_9 : decode cX7_writeTo 9 = .ok (.getfield 21, 3) := by decide +kernel
theorem dX7_writeTo_12 : decode cX7_writeTo 12 = .ok (.getfield 36, 3) := by decide +kernel
theorem dX7_writeTo_15 : decode cX7_writeTo 15 = .ok (.if_icmp .ge 27, 3) := by decide +kernel
theorem dX7_writeTo_18 : decode cX7_writeTo 18 = .ok (.aload_n 1, 1) := by decide +kernel
theorem dX7_writeTo_19 : decode cX7_writeTo 19 = .ok (.aload_n 0, 1) := by decide +kernel
theorem dX7_writeTo_20 : decode cX7_writeTo 20 = .ok (.getfield 21, 3) := by decide +kernel
theorem dX7_writeTo_23 : decode cX7_writeTo 23 = .ok (.getfield 43, 3) := by decide +kernel
theorem dX7_writeTo_26 : decode cX7_writeTo 26 = .ok (.aload_n 0, 1) := by decide +kernel
theorem dX7_writeTo_27 : decode cX7_writeTo 27 = .ok (.getfield 9, 3) := by decide +kernel
theorem dX7_writeTo_30 : decode cX7_writeTo 30 = .ok (.iload_n 2, 1) := by decide +kernel
theorem dX7_writeTo_31 : decode cX7_writeTo 31 = .ok (.iaload, 1) := by decide +kernel
theorem dX7_writeTo_32 : decode cX7_writeTo 32 = .ok (.iaload, 1) := by decide +kernel
theorem dX7_writeTo_33 : decode cX7_writeTo 33 = .ok (.invokevirtual 44, 3) := by decide +kernel
theorem dX7_writeTo_36 : decode cX7_writeTo 36 = .ok (.iinc 2 1, 3) := by decide +kernel
theorem dX7_writeTo_39 : decode cX7_writeTo 39 = .ok (.goto (-32), 3) := by decide +kernel
theorem dX7_writeTo_42 : decode cX7_writeTo 42 = .ok (.return_, 1) := by decide +kernel
set_option maxRecDepth 20000 in
set_option maxRecDepth 100000 in
theorem ggX7_upsetWeight_X8_peckOf : GoodIn wsX7_upsetWeight wsX8_peckOf := goodIn_r _ [8, 9, 14, 15, 16, 17, 18, 19, 20, 21, 22, 23] rfl (by decide +kernel)
set_option maxRecDepth 20000 in
theorem gX7_upsetWeight_X8_peckOf : GoodIn wsX7_upsetWeight (wsV RX7 48 RX8 yX8_peckOf wsX8_peckOf) := goodIn_app (goodIn_of _ (by decide +kernel)) ggX7_upsetWeight_X8_peckOf
theorem dX7_upsetWeight_0 : decode cX7_upsetWeight 0 = .ok (.lconst 0, 1) := by decide +kernel
theorem dX7_upsetWeight_1 : decode cX7_upsetWeight 1 = .ok (.lstore_n 1, 1) := by decide +kernel
theorem dX7_upsetWeight_2 : decode cX7_upsetWeight 2 = .ok (.iconst 1, 1) := by decide +kernel
theorem dX7_upsetWeight_3 : decode cX7_upsetWeight 3 = .ok (.istore_n 3, 1) := by decide +kernel
theorem dX7_upsetWeight_4 : decode cX7_upsetWeight 4 = .ok (.iload_n 3, 1) := by decide +kernel
theorem dX7_upsetWeight_5 : decode cX7_upsetWeight 5 = .ok (.aload_n 0, 1) := by decide +kernel
theorem dX7_upsetWeight_6 : decode cX7_upsetWeight 6 = .ok (.getfield 21, 3) := by decide +kernel
theorem dX7_upsetWeight_9 : decode cX7_upsetWeight 9 = .ok (.getfield 36, 3) := by decide +kernel
theorem dX7_upsetWeight_12 : decode cX7_upsetWeight 12 = .ok (.if_icmp .ge 48, 3) := by decide +kernel
theorem dX7_upsetWeight_15 : decode cX7_upsetWeight 15 = .ok (.iconst 0, 1) := by decide +kernel
theorem dX7_upsetWeight_16 : decode cX7_upsetWeight 16 = .ok (.istore 4, 2) := by decide +kernel
theorem dX7_upsetWeight_18 : decode cX7_upsetWeight 18 = .ok (.iload 4, 2) := by decide +kernel
theorem dX7_upsetWeight_20 : decode cX7_upsetWeight 20 = .ok (.iload_n 3, 1) := by decide +kernel
theorem dX7_upsetWeight_21 : decode cX7_upsetWeight 21 = .ok (.if_icmp .ge 33, 3) := by decide +kernel
theorem dX7_upsetWeight_24 : decode cX7_upsetWeight 24 = .ok (.lload_n 1, 1) := by decide +kernel
theorem dX7_upsetWeight_25 : decode cX7_upsetWeight 25 = .ok (.aload_n 0, 1) := by decide +kernel
theorem dX7_upsetWeight_26 : decode cX7_upsetWeight 26 = .ok (.getfield 21, 3) := by decide +kernel
theorem dX7_upsetWeight_29 : decode cX7_upsetWeight 29 = .ok (.aload_n 0, 1) := by decide +kernel
theorem dX7_upsetWeight_30 : decode cX7_upsetWeight 30 = .ok (.getfield 9, 3) := by decide +kernel
theorem dX7_upsetWeight_33 : decode cX7_upsetWeight 33 = .ok (.iload_n 3, 1) := by decide +kernel
theorem dX7_upsetWeight_34 : decode cX7_upsetWeight 34 = .ok (.iaload, 1) := by decide +kernel
theorem dX7_upsetWeight_35 : decode cX7_upsetWeight 35 = .ok (.aload_n 0, 1) := by decide +kernel
theorem dX7_upsetWeight_36 : decode cX7_upsetWeight 36 = .ok (.getfield 9, 3) := by decide +kernel
theorem dX7_upsetWeight_39 : decode cX7_upsetWeight 39 = .ok (.iload 4, 2) := by decide +kernel
theorem dX7_upsetWeight_41 : decode cX7_upsetWeight 41 = .ok (.iaload, 1) := by decide +kernel
theorem dX7_upsetWeight_42 : decode cX7_upsetWeight 42 = .ok (.invokevirtual 48, 3) := by decide +kernel
theorem dX7_upsetWeight_45 : decode cX7_upsetWeight 45 = .ok (.i2l, 1) := by decide +kernel
theorem dX7_upsetWeight_46 : decode cX7_upsetWeight 46 = .ok (.ladd, 1) := by decide +kernel
theorem dX7_upsetWeight_47 : decode cX7_upsetWeight 47 = .ok (.lstore_n 1, 1) := by decide +kernel
theorem dX7_upsetWeight_48 : decode cX7_upsetWeight 48 = .ok (.iinc 4 1, 3) := by decide +kernel
theorem dX7_upsetWeight_51 : decode cX7_upsetWeight 51 = .ok (.goto (-33), 3) := by decide +kernel
theorem dX7_upsetWeight_54 : decode cX7_upsetWeight 54 = .ok (.iinc 3 1, 3) := by decide +kernel
theorem dX7_upsetWeight_57 : decode cX7_upsetWeight 57 = .ok (.goto (-53), 3) := by decide +kernel
theorem dX7_upsetWeight_60 : decode cX7_upsetWeight 60 = .ok (.lload_n 1, 1) := by decide +kernel
theorem dX7_upsetWeight_61 : decode cX7_upsetWeight 61 = .ok (.lreturn, 1) := by decide +kernel
set_option maxRecDepth 20000 in
set_option maxRecDepth 100000 in
theorem ggX7_leastFault_X7_isKept : GoodIn wsX7_leastFault wsX7_isKept := goodIn_r _ [9, 1, 10, 11, 12, 13, 14, 15, 16, 17, 18, 19, 20, 21, 22, 23, 24, 25, 26] rfl (by decide +kernel)
set_option maxRecDepth 20000 in
theorem gX7_leastFault_X7_isKept : GoodIn wsX7_leastFault (wsV RX7 52 RX7 yX7_isKept wsX7_isKept) := goodIn_app (goodIn_of _ (by decide +kernel)) ggX7_leastFault_X7_isKept
theorem dX7_leastFault_0 : decode cX7_leastFault 0 = .ok (.iconst 0, 1) := by decide +kernel
theorem dX7_leastFault_1 : decode cX7_leastFault 1 = .ok (.istore_n 1, 1) := by decide +kernel
theorem dX7_leastFault_2 : decode cX7_leastFault 2 = .ok (.iload_n 1, 1) := by decide +kernel
theorem dX7_leastFault_3 : decode cX7_leastFault 3 = .ok (.aload_n 0, 1) := by decide +kernel
theorem dX7_leastFault_4 : decode cX7_leastFault 4 = .ok (.getfield 21, 3) := by decide +kernel
theorem dX7_leastFault_7 : decode cX7_leastFault 7 = .ok (.getfield 36, 3) := by decide +kernel
theorem dX7_leastFault_10 : decode cX7_leastFault 10 = .ok (.if_icmp .ge 28, 3) := by decide +kernel
theorem dX7_leastFault_13 : decode cX7_leastFault 13 = .ok (.aload_n 0, 1) := by decide +kernel
theorem dX7_leastFault_14 : decode cX7_leastFault 14 = .ok (.iload_n 1, 1) := by decide +kernel
theorem dX7_leastFault_15 : decode cX7_leastFault 15 = .ok (.invokevirtual 52, 3) := by decide +kernel
theorem dX7_leastFault_18 : decode cX7_leastFault 18 = .ok (.ifCond .ne 14, 3) := by decide +kernel
theorem dX7_leastFault_21 : decode cX7_leastFault 21 = .ok (.aload_n 0, 1) := by decide +kernel
theorem dX7_leastFault_22 : decode cX7_leastFault 22 = .ok (.getfield 21, 3) := by decide +kernel
theorem dX7_leastFault_25 : decode cX7_leastFault 25 = .ok (.getfield 43, 3) := by decide +kernel
theorem dX7_leastFault_28 : decode cX7_leastFault 28 = .ok (.iload_n 1, 1) := by decide +kernel
theorem dX7_leastFault_29 : decode cX7_leastFault 29 = .ok (.iaload, 1) := by decide +kernel
theorem dX7_leastFault_30 : decode cX7_leastFault 30 = .ok (.i2l, 1) := by decide +kernel
theorem dX7_leastFault_31 : decode cX7_leastFault 31 = .ok (.lreturn, 1) := by decide +kernel
theorem dX7_leastFault_32 : decode cX7_leastFault 32 = .ok (.iinc 1 1, 3) := by decide +kernel
theorem dX7_leastFault_35 : decode cX7_leastFault 35 = .ok (.goto (-33), 3) := by decide +kernel
theorem dX7_leastFault_38 : decode cX7_leastFault 38 = .ok (.ldc2_w 56, 3) := by decide +kernel
theorem dX7_leastFault_41 : decode cX7_leastFault 41 = .ok (.lreturn, 1) := by decide +kernel
theorem dX7_isKept_0 : decode cX7_isKept 0 = .ok (.aload_n 0, 1) := by decide +kernel
theorem dX7_isKept_1 : decode cX7_isKept 1 = .ok (.getfield 21, 3) := by decide +kernel
theorem dX7_isKept_4 : decode cX7_isKept 4 = .ok (.getfield 58, 3) := by decide +kernel
theorem dX7_isKept_7 : decode cX7_isKept 7 = .ok (.iload_n 1, 1) := by decide +kernel
theorem dX7_isKept_8 : decode cX7_isKept 8 = .ok (.iaload, 1) := by decide +kernel
theorem dX7_isKept_9 : decode cX7_isKept 9 = .ok (.istore_n 2, 1) := by decide +kernel
theorem dX7_isKept_10 : decode cX7_isKept 10 = .ok (.iload_n 2, 1) := by decide +kernel
theorem dX7_isKept_11 : decode cX7_isKept 11 = .ok (.iconst (-1), 1) := by decide +kernel
theorem dX7_isKept_12 : decode cX7_isKept 12 = .ok (.if_icmp .ne 5, 3) := by decide +kernel
theorem dX7_isKept_15 : decode cX7_isKept 15 = .ok (.iconst 1, 1) := by decide +kernel
theorem dX7_isKept_16 : decode cX7_isKept 16 = .ok (.ireturn, 1) := by decide +kernel
theorem dX7_isKept_17 : decode cX7_isKept 17 = .ok (.aload_n 0, 1) := by decide +kernel
theorem dX7_isKept_18 : decode cX7_isKept 18 = .ok (.getfield 15, 3) := by decide +kernel
theorem dX7_isKept_21 : decode cX7_isKept 21 = .ok (.iload_n 1, 1) := by decide +kernel
theorem dX7_isKept_22 : decode cX7_isKept 22 = .ok (.iaload, 1) := by decide +kernel
theorem dX7_isKept_23 : decode cX7_isKept 23 = .ok (.aload_n 0, 1) := by decide +kernel
theorem dX7_isKept_24 : decode cX7_isKept 24 = .ok (.getfield 15, 3) := by decide +kernel
theorem dX7_isKept_27 : decode cX7_isKept 27 = .ok (.iload_n 2, 1) := by decide +kernel
theorem dX7_isKept_28 : decode cX7_isKept 28 = .ok (.iaload, 1) := by decide +kernel
theorem dX7_isKept_29 : decode cX7_isKept 29 = .ok (.isub, 1) := by decide +kernel
theorem dX7_isKept_30 : decode cX7_isKept 30 = .ok (.istore_n 3, 1) := by decide +kernel
theorem dX7_isKept_31 : decode cX7_isKept 31 = .ok (.aload_n 0, 1) := by decide +kernel
theorem dX7_isKept_32 : decode cX7_isKept 32 = .ok (.getfield 21, 3) := by decide +kernel
theorem dX7_isKept_35 : decode cX7_isKept 35 = .ok (.getfield 61, 3) := by decide +kernel
theorem dX7_isKept_38 : decode cX7_isKept 38 = .ok (.iload_n 1, 1) := by decide +kernel
theorem dX7_isKept_39 : decode cX7_isKept 39 = .ok (.iaload, 1) := by decide +kernel
theorem dX7_isKept_40 : decode cX7_isKept 40 = .ok (.tableswitch 59 1 3 #[28, 38, 48], 28) := by decide +kernel
theorem dX7_isKept_68 : decode cX7_isKept 68 = .ok (.iload_n 3, 1) := by decide +kernel
theorem dX7_isKept_69 : decode cX7_isKept 69 = .ok (.ifCond .le 7, 3) := by decide +kernel
theorem dX7_isKept_72 : decode cX7_isKept 72 = .ok (.iconst 1, 1) := by decide +kernel
