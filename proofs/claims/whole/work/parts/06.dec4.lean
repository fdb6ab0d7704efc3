theorem dX4_init_0 : decode cX4_init 0 = .ok (.aload_n 0, 1) := by decide +kernel
theorem dX4_init_1 : decode cX4_init 1 = .ok (.invokespecial 1, 3) := by decide +kernel
theorem dX4_init_4 : decode cX4_init 4 = .ok (.aload_n 0, 1) := by decide +kernel
theorem dX4_init_5 : decode cX4_init 5 = .ok (.bipush 16, 2) := by decide +kernel
theorem dX4_init_7 : decode cX4_init 7 = .ok (.newarray .int, 2) := by decide +kernel
theorem dX4_init_9 : decode cX4_init 9 = .ok (.putfield 9, 3) := by decide +kernel
theorem dX4_init_12 : decode cX4_init 12 = .ok (.aload_n 0, 1) := by decide +kernel
theorem dX4_init_13 : decode cX4_init 13 = .ok (.iconst 4, 1) := by decide +kernel
theorem dX4_init_14 : decode cX4_init 14 = .ok (.newarray .int, 2) := by decide +kernel
theorem dX4_init_16 : decode cX4_init 16 = .ok (.putfield 13, 3) := by decide +kernel
theorem dX4_init_19 : decode cX4_init 19 = .ok (.aload_n 0, 1) := by decide +kernel
theorem dX4_init_20 : decode cX4_init 20 = .ok (.iconst 4, 1) := by decide +kernel
theorem dX4_init_21 : decode cX4_init 21 = .ok (.bipush 16, 2) := by decide +kernel
theorem dX4_init_23 : decode cX4_init 23 = .ok (.multianewarray 16 2, 4) := by decide +kernel
theorem dX4_init_27 : decode cX4_init 27 = .ok (.putfield 18, 3) := by decide +kernel
theorem dX4_init_30 : decode cX4_init 30 = .ok (.aload_n 0, 1) := by decide +kernel
theorem dX4_init_31 : decode cX4_init 31 = .ok (.iconst 4, 1) := by decide +kernel
theorem dX4_init_32 : decode cX4_init 32 = .ok (.newarray .int, 2) := by decide +kernel
theorem dX4_init_34 : decode cX4_init 34 = .ok (.putfield 21, 3) := by decide +kernel
theorem dX4_init_37 : decode cX4_init 37 = .ok (.aload_n 0, 1) := by decide +kernel
theorem dX4_init_38 : decode cX4_init 38 = .ok (.iconst 4, 1) := by decide +kernel
theorem dX4_init_39 : decode cX4_init 39 = .ok (.newarray .int, 2) := by decide +kernel
theorem dX4_init_41 : decode cX4_init 41 = .ok (.putfield 24, 3) := by decide +kernel
theorem dX4_init_44 : decode cX4_init 44 = .ok (.aload_n 0, 1) := by decide +kernel
theorem dX4_init_45 : decode cX4_init 45 = .ok (.iconst 4, 1) := by decide +kernel
theorem dX4_init_46 : decode cX4_init 46 = .ok (.newarray .int, 2) := by decide +kernel
theorem dX4_init_48 : decode cX4_init 48 = .ok (.putfield 27, 3) := by decide +kernel
theorem dX4_init_51 : decode cX4_init 51 = .ok (.aload_n 0, 1) := by decide +kernel
theorem dX4_init_52 : decode cX4_init 52 = .ok (.iconst 4, 1) := by decide +kernel
theorem dX4_init_53 : decode cX4_init 53 = .ok (.newarray .int, 2) := by decide +kernel
theorem dX4_init_55 : decode cX4_init 55 = .ok (.putfield 30, 3) := by decide +kernel
theorem dX4_init_58 : decode cX4_init 58 = .ok (.iconst 0, 1) := by decide +kernel
theorem dX4_init_59 : decode cX4_init 59 = .ok (.istore_n 1, 1) := by decide +kernel
theorem dX4_init_60 : decode cX4_init 60 = .ok (.iload_n 1, 1) := by decide +kernel
theorem dX4_init_61 : decode cX4_init 61 = .ok (.bipush 16, 2) := by decide +kernel
theorem dX4_init_63 : decode cX4_init 63 = .ok (.if_icmp .ge 16, 3) := by decide +kernel
theorem dX4_init_66 : decode cX4_init 66 = .ok (.aload_n 0, 1) := by decide +kernel
theorem dX4_init_67 : decode cX4_init 67 = .ok (.getfield 9, 3) := by decide +kernel
theorem dX4_init_70 : decode cX4_init 70 = .ok (.iload_n 1, 1) := by decide +kernel
theorem dX4_init_71 : decode cX4_init 71 = .ok (.iload_n 1, 1) := by decide +kernel
theorem dX4_init_72 : decode cX4_init 72 = .ok (.iastore, 1) := by decide +kernel
theorem dX4_init_73 : decode cX4_init 73 = .ok (.iinc 1 1, 3) := by decide +kernel
theorem dX4_init_76 : decode cX4_init 76 = .ok (.goto (-16), 3) := by decide +kernel
theorem dX4_init_79 : decode cX4_init 79 = .ok (.return_, 1) := by decide +kernel
theorem dX4_thrown_0 : decode cX4_thrown 0 = .ok (.aload_n 0, 1) := by decide +kernel
theorem dX4_thrown_1 : decode cX4_thrown 1 = .ok (.getfield 33, 3) := by decide +kernel
theorem dX4_thrown_4 : decode cX4_thrown 4 = .ok (.ireturn, 1) := by decide +kernel
theorem dX4_no_0 : decode cX4_no 0 = .ok (.aload_n 0, 1) := by decide +kernel
theorem dX4_no_1 : decode cX4_no 1 = .ok (.iload_n 1, 1) := by decide +kernel
theorem dX4_no_2 : decode cX4_no 2 = .ok (.putfield 33, 3) := by decide +kernel
theorem dX4_no_5 : decode cX4_no 5 = .ok (.iconst 0, 1) := by decide +kernel
theorem dX4_no_6 : decode cX4_no 6 = .ok (.ireturn, 1) := by decide +kernel
theorem dX4_isIn_0 : decode cX4_isIn 0 = .ok (.iload_n 0, 1) := by decide +kernel
theorem dX4_isIn_1 : decode cX4_isIn 1 = .ok (.iload_n 1, 1) := by decide +kernel
theorem dX4_isIn_2 : decode cX4_isIn 2 = .ok (.if_icmp .lt 12, 3) := by decide +kernel
theorem dX4_isIn_5 : decode cX4_isIn 5 = .ok (.iload_n 0, 1) := by decide +kernel
theorem dX4_isIn_6 : decode cX4_isIn 6 = .ok (.iload_n 2, 1) := by decide +kernel
theorem dX4_isIn_7 : decode cX4_isIn 7 = .ok (.if_icmp .gt 7, 3) := by decide +kernel
theorem dX4_isIn_10 : decode cX4_isIn 10 = .ok (.iconst 1, 1) := by decide +kernel
theorem dX4_isIn_11 : decode cX4_isIn 11 = .ok (.goto 4, 3) := by decide +kernel
theorem dX4_isIn_14 : decode cX4_isIn 14 = .ok (.iconst 0, 1) := by decide +kernel
theorem dX4_isIn_15 : decode cX4_isIn 15 = .ok (.ireturn, 1) := by decide +kernel
set_option maxRecDepth 20000 in
theorem ggX4_isPlace_X4_isIn : GoodIn wsX4_isPlace wsX4_isIn := goodIn_r _ [4] (by decide +kernel) (by decide +kernel)
set_option maxRecDepth 20000 in
theorem gX4_isPlace_X4_isIn : GoodIn wsX4_isPlace (va_wsS RX4 37 yX4_isIn wsX4_isIn) := goodIn_app (goodIn_of _ (by decide +kernel)) ggX4_isPlace_X4_isIn
theorem dX4_isPlace_0 : decode cX4_isPlace 0 = .ok (.iload_n 0, 1) := by decide +kernel
theorem dX4_isPlace_1 : decode cX4_isPlace 1 = .ok (.iconst 0, 1) := by decide +kernel
theorem dX4_isPlace_2 : decode cX4_isPlace 2 = .ok (.bipush 15, 2) := by decide +kernel
theorem dX4_isPlace_4 : decode cX4_isPlace 4 = .ok (.invokestatic 37, 3) := by decide +kernel
theorem dX4_isPlace_7 : decode cX4_isPlace 7 = .ok (.ireturn, 1) := by decide +kernel
set_option maxRecDepth 20000 in
theorem ggX4_isWatcher_X4_isIn : GoodIn wsX4_isWatcher wsX4_isIn := goodIn_r _ [5] (by decide +kernel) (by decide +kernel)
set_option maxRecDepth 20000 in
theorem gX4_isWatcher_X4_isIn : GoodIn wsX4_isWatcher (va_wsS RX4 37 yX4_isIn wsX4_isIn) := goodIn_app (goodIn_of _ (by decide +kernel)) ggX4_isWatcher_X4_isIn
theorem dX4_isWatcher_0 : decode cX4_isWatcher 0 = .ok (.iload_n 1, 1) := by decide +kernel
theorem dX4_isWatcher_1 : decode cX4_isWatcher 1 = .ok (.iconst 0, 1) := by decide +kernel
theorem dX4_isWatcher_2 : decode cX4_isWatcher 2 = .ok (.aload_n 0, 1) := by decide +kernel
theorem dX4_isWatcher_3 : decode cX4_isWatcher 3 = .ok (.getfield 41, 3) := by decide +kernel
theorem dX4_isWatcher_6 : decode cX4_isWatcher 6 = .ok (.iconst 1, 1) := by decide +kernel
theorem dX4_isWatcher_7 : decode cX4_isWatcher 7 = .ok (.isub, 1) := by decide +kernel
theorem dX4_isWatcher_8 : decode cX4_isWatcher 8 = .ok (.invokestatic 37, 3) := by decide +kernel
theorem dX4_isWatcher_11 : decode cX4_isWatcher 11 = .ok (.ireturn, 1) := by decide +kernel
set_option maxRecDepth 20000 in
theorem ggX4_isPlayer_X4_isIn : GoodIn wsX4_isPlayer wsX4_isIn := goodIn_r _ [5] (by decide +kernel) (by decide +kernel)
set_option maxRecDepth 20000 in
theorem gX4_isPlayer_X4_isIn : GoodIn wsX4_isPlayer (va_wsS RX4 37 yX4_isIn wsX4_isIn) := goodIn_app (goodIn_of _ (by decide +kernel)) ggX4_isPlayer_X4_isIn
theorem dX4_isPlayer_0 : decode cX4_isPlayer 0 = .ok (.iload_n 1, 1) := by decide +kernel
theorem dX4_isPlayer_1 : decode cX4_isPlayer 1 = .ok (.iconst 0, 1) := by decide +kernel
theorem dX4_isPlayer_2 : decode cX4_isPlayer 2 = .ok (.aload_n 0, 1) := by decide +kernel
theorem dX4_isPlayer_3 : decode cX4_isPlayer 3 = .ok (.getfield 44, 3) := by decide +kernel
theorem dX4_isPlayer_6 : decode cX4_isPlayer 6 = .ok (.iconst 1, 1) := by decide +kernel
theorem dX4_isPlayer_7 : decode cX4_isPlayer 7 = .ok (.isub, 1) := by decide +kernel
theorem dX4_isPlayer_8 : decode cX4_isPlayer 8 = .ok (.invokestatic 37, 3) := by decide +kernel
theorem dX4_isPlayer_11 : decode cX4_isPlayer 11 = .ok (.ireturn, 1) := by decide +kernel
set_option maxRecDepth 20000 in
theorem ggX4_isWay_X4_isIn : GoodIn wsX4_isWay wsX4_isIn := goodIn_r _ [4] (by decide +kernel) (by decide +kernel)
set_option maxRecDepth 20000 in
theorem gX4_isWay_X4_isIn : GoodIn wsX4_isWay (va_wsS RX4 37 yX4_isIn wsX4_isIn) := goodIn_app (goodIn_of _ (by decide +kernel)) ggX4_isWay_X4_isIn
theorem dX4_isWay_0 : decode cX4_isWay 0 = .ok (.iload_n 0, 1) := by decide +kernel
theorem dX4_isWay_1 : decode cX4_isWay 1 = .ok (.ifCond .ne 11, 3) := by decide +kernel
theorem dX4_isWay_4 : decode cX4_isWay 4 = .ok (.iload_n 1, 1) := by decide +kernel
theorem dX4_isWay_5 : decode cX4_isWay 5 = .ok (.iconst 1, 1) := by decide +kernel
theorem dX4_isWay_6 : decode cX4_isWay 6 = .ok (.bipush 15, 2) := by decide +kernel
theorem dX4_isWay_8 : decode cX4_isWay 8 = .ok (.invokestatic 37, 3) := by decide +kernel
theorem dX4_isWay_11 : decode cX4_isWay 11 = .ok (.ireturn, 1) := by decide +kernel
theorem dX4_isWay_12 : decode cX4_isWay 12 = .ok (.iload_n 0, 1) := by decide +kernel
theorem dX4_isWay_13 : decode cX4_isWay 13 = .ok (.iconst 3, 1) := by decide +kernel
theorem dX4_isWay_14 : decode cX4_isWay 14 = .ok (.if_icmp .ne 11, 3) := by decide +kernel
theorem dX4_isWay_17 : decode cX4_isWay 17 = .ok (.iload_n 1, 1) := by decide +kernel
theorem dX4_isWay_18 : decode cX4_isWay 18 = .ok (.iconst 2, 1) := by decide +kernel
theorem dX4_isWay_19 : decode cX4_isWay 19 = .ok (.bipush 16, 2) := by decide +kernel
theorem dX4_isWay_21 : decode cX4_isWay 21 = .ok (.invokestatic 37, 3) := by decide +kernel
theorem dX4_isWay_24 : decode cX4_isWay 24 = .ok (.ireturn, 1) := by decide +kernel
theorem dX4_isWay_25 : decode cX4_isWay 25 = .ok (.iload_n 0, 1) := by decide +kernel
theorem dX4_isWay_26 : decode cX4_isWay 26 = .ok (.iconst 0, 1) := by decide +kernel
theorem dX4_isWay_27 : decode cX4_isWay 27 = .ok (.iconst 4, 1) := by decide +kernel
theorem dX4_isWay_28 : decode cX4_isWay 28 = .ok (.invokestatic 37, 3) := by decide +kernel
theorem dX4_isWay_31 : decode cX4_isWay 31 = .ok (.ifCond .eq 11, 3) := by decide +kernel
theorem dX4_isWay_34 : decode cX4_isWay 34 = .ok (.iload_n 1, 1) := by decide +kernel
theorem dX4_isWay_35 : decode cX4_isWay 35 = .ok (.ifCond .ne 7, 3) := by decide +kernel
theorem dX4_isWay_38 : decode cX4_isWay 38 = .ok (.iconst 1, 1) := by decide +kernel
theorem dX4_isWay_39 : decode cX4_isWay 39 = .ok (.goto 4, 3) := by decide +kernel
theorem dX4_isWay_42 : decode cX4_isWay 42 = .ok (.iconst 0, 1) := by decide +kernel
theorem dX4_isWay_43 : decode cX4_isWay 43 = .ok (.ireturn, 1) := by decide +kernel
theorem dX4_to_0 : decode cX4_to 0 = .ok (.iload_n 0, 1) := by decide +kernel
theorem dX4_to_1 : decode cX4_to 1 = .ok (.tableswitch 96 0 3 #[31, 41, 60, 81], 31) := by decide +kernel
theorem dX4_to_32 : decode cX4_to 32 = .ok (.iload_n 2, 1) := by decide +kernel
theorem dX4_to_33 : decode cX4_to 33 = .ok (.bipush 16, 2) := by decide +kernel
theorem dX4_to_35 : decode cX4_to 35 = .ok (.iadd, 1) := by decide +kernel
theorem dX4_to_36 : decode cX4_to 36 = .ok (.iload_n 1, 1) := by decide +kernel
theorem dX4_to_37 : decode cX4_to 37 = .ok (.isub, 1) := by decide +kernel
theorem dX4_to_38 : decode cX4_to 38 = .ok (.bipush 16, 2) := by decide +kernel
theorem dX4_to_40 : decode cX4_to 40 = .ok (.irem, 1) := by decide +kernel
theorem dX4_to_41 : decode cX4_to 41 = .ok (.ireturn, 1) := by decide +kernel
theorem dX4_to_42 : decode cX4_to 42 = .ok (.iload_n 2, 1) := by decide +kernel
theorem dX4_to_43 : decode cX4_to 43 = .ok (.bipush 8, 2) := by decide +kernel
theorem dX4_to_45 : decode cX4_to 45 = .ok (.if_icmp .ge 9, 3) := by decide +kernel
theorem dX4_to_48 : decode cX4_to 48 = .ok (.iconst 2, 1) := by decide +kernel
theorem dX4_to_49 : decode cX4_to 49 = .ok (.iload_n 2, 1) := by decide +kernel
theorem dX4_to_50 : decode cX4_to 50 = .ok (.imul, 1) := by decide +kernel
theorem dX4_to_51 : decode cX4_to 51 = .ok (.goto 9, 3) := by decide +kernel
theorem dX4_to_54 : decode cX4_to 54 = .ok (.iconst 2, 1) := by decide +kernel
theorem dX4_to_55 : decode cX4_to 55 = .ok (.iload_n 2, 1) := by decide +kernel
theorem dX4_to_56 : decode cX4_to 56 = .ok (.imul, 1) := by decide +kernel
theorem dX4_to_57 : decode cX4_to 57 = .ok (.bipush 15, 2) := by decide +kernel
theorem dX4_to_59 : decode cX4_to 59 = .ok (.isub, 1) := by decide +kernel
theorem dX4_to_60 : decode cX4_to 60 = .ok (.ireturn, 1) := by decide +kernel
theorem dX4_to_61 : decode cX4_to 61 = .ok (.iload_n 2, 1) := by decide +kernel
theorem dX4_to_62 : decode cX4_to 62 = .ok (.bipush 8, 2) := by decide +kernel
theorem dX4_to_64 : decode cX4_to 64 = .ok (.if_icmp .ge 11, 3) := by decide +kernel
theorem dX4_to_67 : decode cX4_to 67 = .ok (.iconst 2, 1) := by decide +kernel
theorem dX4_to_68 : decode cX4_to 68 = .ok (.iload_n 2, 1) := by decide +kernel
theorem dX4_to_69 : decode cX4_to 69 = .ok (.imul, 1) := by decide +kernel
theorem dX4_to_70 : decode cX4_to 70 = .ok (.iconst 1, 1) := by decide +kernel
theorem dX4_to_71 : decode cX4_to 71 = .ok (.iadd, 1) := by decide +kernel
theorem dX4_to_72 : decode cX4_to 72 = .ok (.goto 9, 3) := by decide +kernel
theorem dX4_to_75 : decode cX4_to 75 = .ok (.iconst 2, 1) := by decide +kernel
theorem dX4_to_76 : decode cX4_to 76 = .ok (.iload_n 2, 1) := by decide +kernel
theorem dX4_to_77 : decode cX4_to 77 = .ok (.imul, 1) := by decide +kernel
theorem dX4_to_78 : decode cX4_to 78 = .ok (.bipush 16, 2) := by decide +kernel
theorem dX4_to_80 : decode cX4_to 80 = .ok (.isub, 1) := by decide +kernel
theorem dX4_to_81 : decode cX4_to 81 = .ok (.ireturn, 1) := by decide +kernel
theorem dX4_to_82 : decode cX4_to 82 = .ok (.iload_n 2, 1) := by decide +kernel
theorem dX4_to_83 : decode cX4_to 83 = .ok (.iload_n 1, 1) := by decide +kernel
theorem dX4_to_84 : decode cX4_to 84 = .ok (.if_icmp .ge 11, 3) := by decide +kernel
theorem dX4_to_87 : decode cX4_to 87 = .ok (.iload_n 1, 1) := by decide +kernel
theorem dX4_to_88 : decode cX4_to 88 = .ok (.iconst 1, 1) := by decide +kernel
theorem dX4_to_89 : decode cX4_to 89 = .ok (.isub, 1) := by decide +kernel
theorem dX4_to_90 : decode cX4_to 90 = .ok (.iload_n 2, 1) := by decide +kernel
theorem dX4_to_91 : decode cX4_to 91 = .ok (.isub, 1) := by decide +kernel
theorem dX4_to_92 : decode cX4_to 92 = .ok (.goto 4, 3) := by decide +kernel
theorem dX4_to_95 : decode cX4_to 95 = .ok (.iload_n 2, 1) := by decide +kernel
theorem dX4_to_96 : decode cX4_to 96 = .ok (.ireturn, 1) := by decide +kernel
theorem dX4_to_97 : decode cX4_to 97 = .ok (.getstatic 47, 3) := by decide +kernel
theorem dX4_to_100 : decode cX4_to 100 = .ok (.iload_n 2, 1) := by decide +kernel
theorem dX4_to_101 : decode cX4_to 101 = .ok (.iaload, 1) := by decide +kernel
theorem dX4_to_102 : decode cX4_to 102 = .ok (.ireturn, 1) := by decide +kernel
set_option maxRecDepth 20000 in
theorem ggX4_move_X4_to : GoodIn wsX4_move wsX4_to := goodIn_r _ [10, 11] (by decide +kernel) (by decide +kernel)
set_option maxRecDepth 20000 in
theorem gX4_move_X4_to : GoodIn wsX4_move (va_wsS RX4 55 yX4_to wsX4_to) := goodIn_app (goodIn_of _ (by decide +kernel)) ggX4_move_X4_to
theorem dX4_move_0 : decode cX4_move 0 = .ok (.aload_n 0, 1) := by decide +kernel
theorem dX4_move_1 : decode cX4_move 1 = .ok (.invokevirtual 50, 3) := by decide +kernel
theorem dX4_move_4 : decode cX4_move 4 = .ok (.checkcast 51, 3) := by decide +kernel
theorem dX4_move_7 : decode cX4_move 7 = .ok (.astore_n 3, 1) := by decide +kernel
theorem dX4_move_8 : decode cX4_move 8 = .ok (.iconst 0, 1) := by decide +kernel
theorem dX4_move_9 : decode cX4_move 9 = .ok (.istore 4, 2) := by decide +kernel
theorem dX4_move_11 : decode cX4_move 11 = .ok (.iload 4, 2) := by decide +kernel
theorem dX4_move_13 : decode cX4_move 13 = .ok (.bipush 16, 2) := by decide +kernel
theorem dX4_move_15 : decode cX4_move 15 = .ok (.if_icmp .ge 22, 3) := by decide +kernel
theorem dX4_move_18 : decode cX4_move 18 = .ok (.aload_n 0, 1) := by decide +kernel
theorem dX4_move_19 : decode cX4_move 19 = .ok (.iload_n 1, 1) := by decide +kernel
theorem dX4_move_20 : decode cX4_move 20 = .ok (.iload_n 2, 1) := by decide +kernel
theorem dX4_move_21 : decode cX4_move 21 = .ok (.iload 4, 2) := by decide +kernel
theorem dX4_move_23 : decode cX4_move 23 = .ok (.invokestatic 55, 3) := by decide +kernel
theorem dX4_move_26 : decode cX4_move 26 = .ok (.aload_n 3, 1) := by decide +kernel
theorem dX4_move_27 : decode cX4_move 27 = .ok (.iload 4, 2) := by decide +kernel
theorem dX4_move_29 : decode cX4_move 29 = .ok (.iaload, 1) := by decide +kernel
theorem dX4_move_30 : decode cX4_move 30 = .ok (.iastore, 1) := by decide +kernel
theorem dX4_move_31 : decode cX4_move 31 = .ok (.iinc 4 1, 3) := by decide +kernel
theorem dX4_move_34 : decode cX4_move 34 = .ok (.goto (-23), 3) := by decide +kernel
theorem dX4_move_37 : decode cX4_move 37 = .ok (.return_, 1) := by decide +kernel
set_option maxRecDepth 20000 in
theorem ggX4_go_X4_isWay : GoodIn wsX4_go wsX4_isWay := goodIn_r _ [9, 10, 11, 8, 12] (by decide +kernel) (by decide +kernel)
set_option maxRecDepth 20000 in
theorem gX4_go_X4_isWay : GoodIn wsX4_go (va_wsS RX4 59 yX4_isWay wsX4_isWay) := goodIn_app (goodIn_of _ (by decide +kernel)) ggX4_go_X4_isWay
set_option maxRecDepth 20000 in
theorem ggX4_go_X4_no : GoodIn wsX4_go wsX4_no := goodIn_r _ [16, 1, 30, 31, 32, 33, 34, 35, 36, 37, 38, 39, 40, 41, 42, 43] (by decide +kernel) (by decide +kernel)
set_option maxRecDepth 20000 in
theorem gX4_go_X4_no : GoodIn wsX4_go (wsV RX4 63 RX4 yX4_no wsX4_no) := goodIn_app (goodIn_of _ (by decide +kernel)) ggX4_go_X4_no
set_option maxRecDepth 20000 in
theorem ggX4_go_X4_move : GoodIn wsX4_go wsX4_move := goodIn_r _ [19, 20, 21, 22, 23, 24, 25, 26, 27, 8, 28, 29] (by decide +kernel) (by decide +kernel)
set_option maxRecDepth 20000 in
theorem gX4_go_X4_move : GoodIn wsX4_go (va_wsS RX4 67 yX4_move wsX4_move) := goodIn_app (goodIn_of _ (by decide +kernel)) ggX4_go_X4_move
theorem dX4_go_0 : decode cX4_go 0 = .ok (.aload_n 0, 1) := by decide +kernel
theorem dX4_go_1 : decode cX4_go 1 = .ok (.iconst 0, 1) := by decide +kernel
theorem dX4_go_2 : decode cX4_go 2 = .ok (.putfield 33, 3) := by decide +kernel
theorem dX4_go_5 : decode cX4_go 5 = .ok (.iload_n 1, 1) := by decide +kernel
theorem dX4_go_6 : decode cX4_go 6 = .ok (.iload_n 2, 1) := by decide +kernel
theorem dX4_go_7 : decode cX4_go 7 = .ok (.invokestatic 59, 3) := by decide +kernel
theorem dX4_go_10 : decode cX4_go 10 = .ok (.ifCond .ne 9, 3) := by decide +kernel
theorem dX4_go_13 : decode cX4_go 13 = .ok (.aload_n 0, 1) := by decide +kernel
theorem dX4_go_14 : decode cX4_go 14 = .ok (.iconst 1, 1) := by decide +kernel
theorem dX4_go_15 : decode cX4_go 15 = .ok (.invokevirtual 63, 3) := by decide +kernel
theorem dX4_go_18 : decode cX4_go 18 = .ok (.ireturn, 1) := by decide +kernel
theorem dX4_go_19 : decode cX4_go 19 = .ok (.aload_n 0, 1) := by decide +kernel
theorem dX4_go_20 : decode cX4_go 20 = .ok (.getfield 9, 3) := by decide +kernel
theorem dX4_go_23 : decode cX4_go 23 = .ok (.iload_n 1, 1) := by decide +kernel
theorem dX4_go_24 : decode cX4_go 24 = .ok (.iload_n 2, 1) := by decide +kernel
theorem dX4_go_25 : decode cX4_go 25 = .ok (.invokestatic 67, 3) := by decide +kernel
theorem dX4_go_28 : decode cX4_go 28 = .ok (.iconst 0, 1) := by decide +kernel
theorem dX4_go_29 : decode cX4_go 29 = .ok (.istore 4, 2) := by decide +kernel
theorem dX4_go_31 : decode cX4_go 31 = .ok (.iload 4, 2) := by decide +kernel
theorem dX4_go_33 : decode cX4_go 33 = .ok (.aload_n 0, 1) := by decide +kernel
theorem dX4_go_34 : decode cX4_go 34 = .ok (.getfield 41, 3) := by decide +kernel
theorem dX4_go_37 : decode cX4_go 37 = .ok (.if_icmp .ge 25, 3) := by decide +kernel
theorem dX4_go_40 : decode cX4_go 40 = .ok (.iload_n 3, 1) := by decide +kernel
theorem dX4_go_41 : decode cX4_go 41 = .ok (.ifCond .eq 21, 3) := by decide +kernel
theorem dX4_go_44 : decode cX4_go 44 = .ok (.aload_n 0, 1) := by decide +kernel
theorem dX4_go_45 : decode cX4_go 45 = .ok (.getfield 18, 3) := by decide +kernel
theorem dX4_go_48 : decode cX4_go 48 = .ok (.iload 4, 2) := by decide +kernel
theorem dX4_go_50 : decode cX4_go 50 = .ok (.aaload, 1) := by decide +kernel
theorem dX4_go_51 : decode cX4_go 51 = .ok (.iload_n 1, 1) := by decide +kernel
theorem dX4_go_52 : decode cX4_go 52 = .ok (.iload_n 2, 1) := by decide +kernel
theorem dX4_go_53 : decode cX4_go 53 = .ok (.invokestatic 67, 3) := by decide +kernel
theorem dX4_go_56 : decode cX4_go 56 = .ok (.iinc 4 1, 3) := by decide +kernel
theorem dX4_go_59 : decode cX4_go 59 = .ok (.goto (-28), 3) := by decide +kernel
theorem dX4_go_62 : decode cX4_go 62 = .ok (.aload_n 0, 1) := by decide +kernel
theorem dX4_go_63 : decode cX4_go 63 = .ok (.dup, 1) := by decide +kernel
theorem dX4_go_64 : decode cX4_go 64 = .ok (.getfield 71, 3) := by decide +kernel
theorem dX4_go_67 : decode cX4_go 67 = .ok (.iconst 1, 1) := by decide +kernel
theorem dX4_go_68 : decode cX4_go 68 = .ok (.iadd, 1) := by decide +kernel
theorem dX4_go_69 : decode cX4_go 69 = .ok (.putfield 71, 3) := by decide +kernel
theorem dX4_go_72 : decode cX4_go 72 = .ok (.aload_n 0, 1) := by decide +kernel
theorem dX4_go_73 : decode cX4_go 73 = .ok (.getfield 9, 3) := by decide +kernel
theorem dX4_go_76 : decode cX4_go 76 = .ok (.iconst 0, 1) := by decide +kernel
theorem dX4_go_77 : decode cX4_go 77 = .ok (.iaload, 1) := by decide +kernel
theorem dX4_go_78 : decode cX4_go 78 = .ok (.ireturn, 1) := by decide +kernel
set_option maxRecDepth 20000 in
theorem ggX4_falseCut_X4_isWay : GoodIn wsX4_falseCut wsX4_isWay := goodIn_r _ [9, 10, 11, 8, 12] (by decide +kernel) (by decide +kernel)
set_option maxRecDepth 20000 in
theorem gX4_falseCut_X4_isWay : GoodIn wsX4_falseCut (va_wsS RX4 59 yX4_isWay wsX4_isWay) := goodIn_app (goodIn_of _ (by decide +kernel)) ggX4_falseCut_X4_isWay
set_option maxRecDepth 20000 in
theorem ggX4_falseCut_X4_no : GoodIn wsX4_falseCut wsX4_no := goodIn_r _ [16, 1, 30, 31, 32, 33, 34, 35, 36, 37, 38, 39, 40, 41, 42, 43] (by decide +kernel) (by decide +kernel)
set_option maxRecDepth 20000 in
theorem gX4_falseCut_X4_no : GoodIn wsX4_falseCut (wsV RX4 63 RX4 yX4_no wsX4_no) := goodIn_app (goodIn_of _ (by decide +kernel)) ggX4_falseCut_X4_no
set_option maxRecDepth 20000 in
theorem ggX4_falseCut_X4_move : GoodIn wsX4_falseCut wsX4_move := goodIn_r _ [19, 20, 21, 22, 23, 24, 25, 26, 27, 8, 28, 29] (by decide +kernel) (by decide +kernel)
set_option maxRecDepth 20000 in
theorem gX4_falseCut_X4_move : GoodIn wsX4_falseCut (va_wsS RX4 67 yX4_move wsX4_move) := goodIn_app (goodIn_of _ (by decide +kernel)) ggX4_falseCut_X4_move
theorem dX4_falseCut_0 : decode cX4_falseCut 0 = .ok (.aload_n 0, 1) := by decide +kernel
theorem dX4_falseCut_1 : decode cX4_falseCut 1 = .ok (.iconst 0, 1) := by decide +kernel
theorem dX4_falseCut_2 : decode cX4_falseCut 2 = .ok (.putfield 33, 3) := by decide +kernel
theorem dX4_falseCut_5 : decode cX4_falseCut 5 = .ok (.iconst 0, 1) := by decide +kernel
theorem dX4_falseCut_6 : decode cX4_falseCut 6 = .ok (.iload_n 1, 1) := by decide +kernel
theorem dX4_falseCut_7 : decode cX4_falseCut 7 = .ok (.invokestatic 59, 3) := by decide +kernel
theorem dX4_falseCut_10 : decode cX4_falseCut 10 = .ok (.ifCond .ne 9, 3) := by decide +kernel
theorem dX4_falseCut_13 : decode cX4_falseCut 13 = .ok (.aload_n 0, 1) := by decide +kernel
theorem dX4_falseCut_14 : decode cX4_falseCut 14 = .ok (.iconst 1, 1) := by decide +kernel
theorem dX4_falseCut_15 : decode cX4_falseCut 15 = .ok (.invokevirtual 63, 3) := by decide +kernel
theorem dX4_falseCut_18 : decode cX4_falseCut 18 = .ok (.ireturn, 1) := by decide +kernel
theorem dX4_falseCut_19 : decode cX4_falseCut 19 = .ok (.iconst 0, 1) := by decide +kernel
theorem dX4_falseCut_20 : decode cX4_falseCut 20 = .ok (.istore_n 2, 1) := by decide +kernel
theorem dX4_falseCut_21 : decode cX4_falseCut 21 = .ok (.iconst 0, 1) := by decide +kernel
theorem dX4_falseCut_22 : decode cX4_falseCut 22 = .ok (.istore_n 3, 1) := by decide +kernel
theorem dX4_falseCut_23 : decode cX4_falseCut 23 = .ok (.iload_n 3, 1) := by decide +kernel
theorem dX4_falseCut_24 : decode cX4_falseCut 24 = .ok (.aload_n 0, 1) := by decide +kernel
theorem dX4_falseCut_25 : decode cX4_falseCut 25 = .ok (.getfield 41, 3) := by decide +kernel
theorem dX4_falseCut_28 : decode cX4_falseCut 28 = .ok (.if_icmp .ge 36, 3) := by decide +kernel
theorem dX4_falseCut_31 : decode cX4_falseCut 31 = .ok (.aload_n 0, 1) := by decide +kernel
theorem dX4_falseCut_32 : decode cX4_falseCut 32 = .ok (.getfield 13, 3) := by decide +kernel
theorem dX4_falseCut_35 : decode cX4_falseCut 35 = .ok (.iload_n 3, 1) := by decide +kernel
theorem dX4_falseCut_36 : decode cX4_falseCut 36 = .ok (.iaload, 1) := by decide +kernel
theorem dX4_falseCut_37 : decode cX4_falseCut 37 = .ok (.iconst 1, 1) := by decide +kernel
theorem dX4_falseCut_38 : decode cX4_falseCut 38 = .ok (.if_icmp .ne 6, 3) := by decide +kernel
theorem dX4_falseCut_41 : decode cX4_falseCut 41 = .ok (.goto 17, 3) := by decide +kernel
theorem dX4_falseCut_44 : decode cX4_falseCut 44 = .ok (.aload_n 0, 1) := by decide +kernel
theorem dX4_falseCut_45 : decode cX4_falseCut 45 = .ok (.getfield 18, 3) := by decide +kernel
theorem dX4_falseCut_48 : decode cX4_falseCut 48 = .ok (.iload_n 3, 1) := by decide +kernel
theorem dX4_falseCut_49 : decode cX4_falseCut 49 = .ok (.aaload, 1) := by decide +kernel
theorem dX4_falseCut_50 : decode cX4_falseCut 50 = .ok (.iconst 0, 1) := by decide +kernel
theorem dX4_falseCut_51 : decode cX4_falseCut 51 = .ok (.iload_n 1, 1) := by decide +kernel
theorem dX4_falseCut_52 : decode cX4_falseCut 52 = .ok (.invokestatic 67, 3) := by decide +kernel
theorem dX4_falseCut_55 : decode cX4_falseCut 55 = .ok (.iinc 2 1, 3) := by decide +kernel
theorem dX4_falseCut_58 : decode cX4_falseCut 58 = .ok (.iinc 3 1, 3) := by decide +kernel
theorem dX4_falseCut_61 : decode cX4_falseCut 61 = .ok (.goto (-38), 3) := by decide +kernel
theorem dX4_falseCut_64 : decode cX4_falseCut 64 = .ok (.aload_n 0, 1) := by decide +kernel
theorem dX4_falseCut_65 : decode cX4_falseCut 65 = .ok (.dup, 1) := by decide +kernel
theorem dX4_falseCut_66 : decode cX4_falseCut 66 = .ok (.getfield 74, 3) := by decide +kernel
theorem dX4_falseCut_69 : decode cX4_falseCut 69 = .ok (.iconst 1, 1) := by decide +kernel
theorem dX4_falseCut_70 : decode cX4_falseCut 70 = .ok (.iadd, 1) := by decide +kernel
theorem dX4_falseCut_71 : decode cX4_falseCut 71 = .ok (.putfield 74, 3) := by decide +kernel
theorem dX4_falseCut_74 : decode cX4_falseCut 74 = .ok (.iload_n 2, 1) := by decide +kernel
theorem dX4_falseCut_75 : decode cX4_falseCut 75 = .ok (.ireturn, 1) := by decide +kernel
set_option maxRecDepth 20000 in
theorem ggX4_comes_X4_isWay : GoodIn wsX4_comes wsX4_isWay := goodIn_r _ [5, 6, 7, 4, 8] (by decide +kernel) (by decide +kernel)
set_option maxRecDepth 20000 in
theorem gX4_comes_X4_isWay : GoodIn wsX4_comes (va_wsS RX4 59 yX4_isWay wsX4_isWay) := goodIn_app (goodIn_of _ (by decide +kernel)) ggX4_comes_X4_isWay
set_option maxRecDepth 20000 in
theorem ggX4_comes_X4_no : GoodIn wsX4_comes wsX4_no := goodIn_r _ [12, 1, 20, 21, 22, 23, 24, 25, 26, 27, 28, 29, 30, 31, 32, 33] (by decide +kernel) (by decide +kernel)
set_option maxRecDepth 20000 in
theorem gX4_comes_X4_no : GoodIn wsX4_comes (wsV RX4 63 RX4 yX4_no wsX4_no) := goodIn_app (goodIn_of _ (by decide +kernel)) ggX4_comes_X4_no
set_option maxRecDepth 20000 in
theorem ggX4_comes_X4_isPlace : GoodIn wsX4_comes wsX4_isPlace := goodIn_r _ [15, 6, 7, 4, 8] (by decide +kernel) (by decide +kernel)
set_option maxRecDepth 20000 in
theorem gX4_comes_X4_isPlace : GoodIn wsX4_comes (va_wsS RX4 77 yX4_isPlace wsX4_isPlace) := goodIn_app (goodIn_of _ (by decide +kernel)) ggX4_comes_X4_isPlace
set_option maxRecDepth 20000 in
theorem ggX4_comes_X4_to : GoodIn wsX4_comes wsX4_to := goodIn_r _ [18, 19] (by decide +kernel) (by decide +kernel)
set_option maxRecDepth 20000 in
theorem gX4_comes_X4_to : GoodIn wsX4_comes (va_wsS RX4 55 yX4_to wsX4_to) := goodIn_app (goodIn_of _ (by decide +kernel)) ggX4_comes_X4_to
theorem dX4_comes_0 : decode cX4_comes 0 = .ok (.aload_n 0, 1) := by decide +kernel
theorem dX4_comes_1 : decode cX4_comes 1 = .ok (.iconst 0, 1) := by decide +kernel
theorem dX4_comes_2 : decode cX4_comes 2 = .ok (.putfield 33, 3) := by decide +kernel
theorem dX4_comes_5 : decode cX4_comes 5 = .ok (.iload_n 1, 1) := by decide +kernel
theorem dX4_comes_6 : decode cX4_comes 6 = .ok (.iload_n 2, 1) := by decide +kernel
theorem dX4_comes_7 : decode cX4_comes 7 = .ok (.invokestatic 59, 3) := by decide +kernel
theorem dX4_comes_10 : decode cX4_comes 10 = .ok (.ifCond .ne 9, 3) := by decide +kernel
theorem dX4_comes_13 : decode cX4_comes 13 = .ok (.aload_n 0, 1) := by decide +kernel
theorem dX4_comes_14 : decode cX4_comes 14 = .ok (.iconst 1, 1) := by decide +kernel
theorem dX4_comes_15 : decode cX4_comes 15 = .ok (.invokevirtual 63, 3) := by decide +kernel
theorem dX4_comes_18 : decode cX4_comes 18 = .ok (.ireturn, 1) := by decide +kernel
theorem dX4_comes_19 : decode cX4_comes 19 = .ok (.iload_n 3, 1) := by decide +kernel
theorem dX4_comes_20 : decode cX4_comes 20 = .ok (.invokestatic 77, 3) := by decide +kernel
theorem dX4_comes_23 : decode cX4_comes 23 = .ok (.ifCond .eq 12, 3) := by decide +kernel
theorem dX4_comes_26 : decode cX4_comes 26 = .ok (.iload_n 1, 1) := by decide +kernel
theorem dX4_comes_27 : decode cX4_comes 27 = .ok (.iload_n 2, 1) := by decide +kernel
theorem dX4_comes_28 : decode cX4_comes 28 = .ok (.iload_n 3, 1) := by decide +kernel
theorem dX4_comes_29 : decode cX4_comes 29 = .ok (.invokestatic 55, 3) := by decide +kernel
theorem dX4_comes_32 : decode cX4_comes 32 = .ok (.goto 8, 3) := by decide +kernel
theorem dX4_comes_35 : decode cX4_comes 35 = .ok (.aload_n 0, 1) := by decide +kernel
theorem dX4_comes_36 : decode cX4_comes 36 = .ok (.iconst 2, 1) := by decide +kernel
theorem dX4_comes_37 : decode cX4_comes 37 = .ok (.invokevirtual 63, 3) := by decide +kernel
theorem dX4_comes_40 : decode cX4_comes 40 = .ok (.ireturn, 1) := by decide +kernel
set_option maxRecDepth 20000 in
theorem ggX4_card_X4_isPlace : GoodIn wsX4_card wsX4_isPlace := goodIn_r _ [6, 7, 8, 5, 9] (by decide +kernel) (by decide +kernel)
set_option maxRecDepth 20000 in
theorem gX4_card_X4_isPlace : GoodIn wsX4_card (va_wsS RX4 77 yX4_isPlace wsX4_isPlace) := goodIn_app (goodIn_of _ (by decide +kernel)) ggX4_card_X4_isPlace
set_option maxRecDepth 20000 in
theorem ggX4_card_X4_no : GoodIn wsX4_card wsX4_no := goodIn_r _ [13, 1, 14, 15, 16, 17, 18, 19, 20, 21, 22, 23, 24, 25, 26, 27] (by decide +kernel) (by decide +kernel)
set_option maxRecDepth 20000 in
theorem gX4_card_X4_no : GoodIn wsX4_card (wsV RX4 63 RX4 yX4_no wsX4_no) := goodIn_app (goodIn_of _ (by decide +kernel)) ggX4_card_X4_no
theorem dX4_card_0 : decode cX4_card 0 = .ok (.aload_n 0, 1) := by decide +kernel
theorem dX4_card_1 : decode cX4_card 1 = .ok (.iconst 0, 1) := by decide +kernel
theorem dX4_card_2 : decode cX4_card 2 = .ok (.putfield 33, 3) := by decide +kernel
theorem dX4_card_5 : decode cX4_card 5 = .ok (.iload_n 1, 1) := by decide +kernel
theorem dX4_card_6 : decode cX4_card 6 = .ok (.invokestatic 77, 3) := by decide +kernel
theorem dX4_card_9 : decode cX4_card 9 = .ok (.ifCond .eq 12, 3) := by decide +kernel
theorem dX4_card_12 : decode cX4_card 12 = .ok (.aload_n 0, 1) := by decide +kernel
theorem dX4_card_13 : decode cX4_card 13 = .ok (.getfield 9, 3) := by decide +kernel
theorem dX4_card_16 : decode cX4_card 16 = .ok (.iload_n 1, 1) := by decide +kernel
theorem dX4_card_17 : decode cX4_card 17 = .ok (.iaload, 1) := by decide +kernel
theorem dX4_card_18 : decode cX4_card 18 = .ok (.goto 8, 3) := by decide +kernel
theorem dX4_card_21 : decode cX4_card 21 = .ok (.aload_n 0, 1) := by decide +kernel
theorem dX4_card_22 : decode cX4_card 22 = .ok (.iconst 1, 1) := by decide +kernel
theorem dX4_card_23 : decode cX4_card 23 = .ok (.invokevirtual 63, 3) := by decide +kernel
theorem dX4_card_26 : decode cX4_card 26 = .ok (.ireturn, 1) := by decide +kernel
theorem dX4_placeOf_0 : decode cX4_placeOf 0 = .ok (.iconst 0, 1) := by decide +kernel
theorem dX4_placeOf_1 : decode cX4_placeOf 1 = .ok (.istore_n 2, 1) := by decide +kernel
theorem dX4_placeOf_2 : decode cX4_placeOf 2 = .ok (.aload_n 0, 1) := by decide +kernel
theorem dX4_placeOf_3 : decode cX4_placeOf 3 = .ok (.getfield 9, 3) := by decide +kernel
theorem dX4_placeOf_6 : decode cX4_placeOf 6 = .ok (.iload_n 2, 1) := by decide +kernel
theorem dX4_placeOf_7 : decode cX4_placeOf 7 = .ok (.iaload, 1) := by decide +kernel
theorem dX4_placeOf_8 : decode cX4_placeOf 8 = .ok (.iload_n 1, 1) := by decide +kernel
theorem dX4_placeOf_9 : decode cX4_placeOf 9 = .ok (.if_icmp .eq 9, 3) := by decide +kernel
theorem dX4_placeOf_12 : decode cX4_placeOf 12 = .ok (.iinc 2 1, 3) := by decide +kernel
theorem dX4_placeOf_15 : decode cX4_placeOf 15 = .ok (.goto (-13), 3) := by decide +kernel
theorem dX4_placeOf_18 : decode cX4_placeOf 18 = .ok (.iload_n 2, 1) := by decide +kernel
theorem dX4_placeOf_19 : decode cX4_placeOf 19 = .ok (.ireturn, 1) := by decide +kernel
set_option maxRecDepth 20000 in
theorem ggX4_find_X4_isPlace : GoodIn wsX4_find wsX4_isPlace := goodIn_r _ [5, 6, 7, 4, 8] (by decide +kernel) (by decide +kernel)
set_option maxRecDepth 20000 in
theorem gX4_find_X4_isPlace : GoodIn wsX4_find (va_wsS RX4 77 yX4_isPlace wsX4_isPlace) := goodIn_app (goodIn_of _ (by decide +kernel)) ggX4_find_X4_isPlace
set_option maxRecDepth 20000 in
theorem ggX4_find_X4_placeOf : GoodIn wsX4_find wsX4_placeOf := goodIn_r _ [12, 13, 18, 19, 20, 21, 22, 23, 24, 25, 26, 27, 28, 29, 30, 31] (by decide +kernel) (by decide +kernel)
set_option maxRecDepth 20000 in
theorem gX4_find_X4_placeOf : GoodIn wsX4_find (wsV RX4 81 RX4 yX4_placeOf wsX4_placeOf) := goodIn_app (goodIn_of _ (by decide +kernel)) ggX4_find_X4_placeOf
set_option maxRecDepth 20000 in
theorem ggX4_find_X4_no : GoodIn wsX4_find wsX4_no := goodIn_r _ [17, 1, 18, 19, 20, 21, 22, 23, 24, 25, 26, 27, 28, 29, 30, 31] (by decide +kernel) (by decide +kernel)
set_option maxRecDepth 20000 in
theorem gX4_find_X4_no : GoodIn wsX4_find (wsV RX4 63 RX4 yX4_no wsX4_no) := goodIn_app (goodIn_of _ (by decide +kernel)) ggX4_find_X4_no
theorem dX4_find_0 : decode cX4_find 0 = .ok (.aload_n 0, 1) := by decide +kernel
theorem dX4_find_1 : decode cX4_find 1 = .ok (.iconst 0, 1) := by decide +kernel
theorem dX4_find_2 : decode cX4_find 2 = .ok (.putfield 33, 3) := by decide +kernel
theorem dX4_find_5 : decode cX4_find 5 = .ok (.iload_n 1, 1) := by decide +kernel
theorem dX4_find_6 : decode cX4_find 6 = .ok (.invokestatic 77, 3) := by decide +kernel
theorem dX4_find_9 : decode cX4_find 9 = .ok (.ifCond .eq 11, 3) := by decide +kernel
theorem dX4_find_12 : decode cX4_find 12 = .ok (.aload_n 0, 1) := by decide +kernel
theorem dX4_find_13 : decode cX4_find 13 = .ok (.iload_n 1, 1) := by decide +kernel
theorem dX4_find_14 : decode cX4_find 14 = .ok (.invokevirtual 81, 3) := by decide +kernel
theorem dX4_find_17 : decode cX4_find 17 = .ok (.goto 8, 3) := by decide +kernel
theorem dX4_find_20 : decode cX4_find 20 = .ok (.aload_n 0, 1) := by decide +kernel
theorem dX4_find_21 : decode cX4_find 21 = .ok (.iconst 1, 1) := by decide +kernel
theorem dX4_find_22 : decode cX4_find 22 = .ok (.invokevirtual 63, 3) := by decide +kernel
theorem dX4_find_25 : decode cX4_find 25 = .ok (.ireturn, 1) := by decide +kernel
set_option maxRecDepth 20000 in
theorem ggX4_watch_X4_no : GoodIn wsX4_watch wsX4_no := goodIn_r _ [10, 1, 11, 12, 13, 14, 15, 16, 17, 18, 19, 20, 21, 22, 23, 24] (by decide +kernel) (by decide +kernel)
set_option maxRecDepth 20000 in
theorem gX4_watch_X4_no : GoodIn wsX4_watch (wsV RX4 63 RX4 yX4_no wsX4_no) := goodIn_app (goodIn_of _ (by decide +kernel)) ggX4_watch_X4_no
theorem dX4_watch_0 : decode cX4_watch 0 = .ok (.aload_n 0, 1) := by decide +kernel
theorem dX4_watch_1 : decode cX4_watch 1 = .ok (.iconst 0, 1) := by decide +kernel
theorem dX4_watch_2 : decode cX4_watch 2 = .ok (.putfield 33, 3) := by decide +kernel
theorem dX4_watch_5 : decode cX4_watch 5 = .ok (.aload_n 0, 1) := by decide +kernel
theorem dX4_watch_6 : decode cX4_watch 6 = .ok (.getfield 41, 3) := by decide +kernel
theorem dX4_watch_9 : decode cX4_watch 9 = .ok (.iconst 4, 1) := by decide +kernel
theorem dX4_watch_10 : decode cX4_watch 10 = .ok (.if_icmp .ne 9, 3) := by decide +kernel
theorem dX4_watch_13 : decode cX4_watch 13 = .ok (.aload_n 0, 1) := by decide +kernel
theorem dX4_watch_14 : decode cX4_watch 14 = .ok (.iconst 1, 1) := by decide +kernel
theorem dX4_watch_15 : decode cX4_watch 15 = .ok (.invokevirtual 63, 3) := by decide +kernel
theorem dX4_watch_18 : decode cX4_watch 18 = .ok (.ireturn, 1) := by decide +kernel
theorem dX4_watch_19 : decode cX4_watch 19 = .ok (.aload_n 0, 1) := by decide +kernel
theorem dX4_watch_20 : decode cX4_watch 20 = .ok (.getfield 13, 3) := by decide +kernel
theorem dX4_watch_23 : decode cX4_watch 23 = .ok (.aload_n 0, 1) := by decide +kernel
theorem dX4_watch_24 : decode cX4_watch 24 = .ok (.getfield 41, 3) := by decide +kernel
theorem dX4_watch_27 : decode cX4_watch 27 = .ok (.iload_n 1, 1) := by decide +kernel
theorem dX4_watch_28 : decode cX4_watch 28 = .ok (.ifCond .eq 7, 3) := by decide +kernel
theorem dX4_watch_31 : decode cX4_watch 31 = .ok (.iconst 1, 1) := by decide +kernel
theorem dX4_watch_32 : decode cX4_watch 32 = .ok (.goto 4, 3) := by decide +kernel
theorem dX4_watch_35 : decode cX4_watch 35 = .ok (.iconst 0, 1) := by decide +kernel
theorem dX4_watch_36 : decode cX4_watch 36 = .ok (.iastore, 1) := by decide +kernel
theorem dX4_watch_37 : decode cX4_watch 37 = .ok (.iconst 0, 1) := by decide +kernel
theorem dX4_watch_38 : decode cX4_watch 38 = .ok (.istore_n 2, 1) := by decide +kernel
theorem dX4_watch_39 : decode cX4_watch 39 = .ok (.iload_n 2, 1) := by decide +kernel
theorem dX4_watch_40 : decode cX4_watch 40 = .ok (.bipush 16, 2) := by decide +kernel
theorem dX4_watch_42 : decode cX4_watch 42 = .ok (.if_icmp .ge 22, 3) := by decide +kernel
theorem dX4_watch_45 : decode cX4_watch 45 = .ok (.aload_n 0, 1) := by decide +kernel
theorem dX4_watch_46 : decode cX4_watch 46 = .ok (.getfield 18, 3) := by decide +kernel
theorem dX4_watch_49 : decode cX4_watch 49 = .ok (.aload_n 0, 1) := by decide +kernel
theorem dX4_watch_50 : decode cX4_watch 50 = .ok (.getfield 41, 3) := by decide +kernel
theorem dX4_watch_53 : decode cX4_watch 53 = .ok (.aaload, 1) := by decide +kernel
theorem dX4_watch_54 : decode cX4_watch 54 = .ok (.iload_n 2, 1) := by decide +kernel
theorem dX4_watch_55 : decode cX4_watch 55 = .ok (.ldc 84, 2) := by decide +kernel
theorem dX4_watch_57 : decode cX4_watch 57 = .ok (.iastore, 1) := by decide +kernel
theorem dX4_watch_58 : decode cX4_watch 58 = .ok (.iinc 2 1, 3) := by decide +kernel
theorem dX4_watch_61 : decode cX4_watch 61 = .ok (.goto (-22), 3) := by decide +kernel
theorem dX4_watch_64 : decode cX4_watch 64 = .ok (.aload_n 0, 1) := by decide +kernel
theorem dX4_watch_65 : decode cX4_watch 65 = .ok (.dup, 1) := by decide +kernel
theorem dX4_watch_66 : decode cX4_watch 66 = .ok (.getfield 41, 3) := by decide +kernel
theorem dX4_watch_69 : decode cX4_watch 69 = .ok (.iconst 1, 1) := by decide +kernel
theorem dX4_watch_70 : decode cX4_watch 70 = .ok (.iadd, 1) := by decide +kernel
theorem dX4_watch_71 : decode cX4_watch 71 = .ok (.putfield 41, 3) := by decide +kernel
theorem dX4_watch_74 : decode cX4_watch 74 = .ok (.aload_n 0, 1) := by decide +kernel
theorem dX4_watch_75 : decode cX4_watch 75 = .ok (.getfield 41, 3) := by decide +kernel
theorem dX4_watch_78 : decode cX4_watch 78 = .ok (.iconst 1, 1) := by decide +kernel
theorem dX4_watch_79 : decode cX4_watch 79 = .ok (.isub, 1) := by decide +kernel
theorem dX4_watch_80 : decode cX4_watch 80 = .ok (.ireturn, 1) := by decide +kernel
set_option maxRecDepth 20000 in
theorem ggX4_isOne_J6_bitCount_0f7a4 : GoodIn wsX4_isOne wsJ6_bitCount_0f7a4 := goodIn_r _ [4, 5, 6, 7] (by decide +kernel) (by decide +kernel)
set_option maxRecDepth 20000 in
theorem gX4_isOne_J6_bitCount_0f7a4 : GoodIn wsX4_isOne (va_wsS RX4 85 yJ6_bitCount_0f7a4 wsJ6_bitCount_0f7a4) := goodIn_app (goodIn_of _ (by decide +kernel)) ggX4_isOne_J6_bitCount_0f7a4
theorem dX4_isOne_0 : decode cX4_isOne 0 = .ok (.iload_n 0, 1) := by decide +kernel
theorem dX4_isOne_1 : decode cX4_isOne 1 = .ok (.invokestatic 85, 3) := by decide +kernel
theorem dX4_isOne_4 : decode cX4_isOne 4 = .ok (.iconst 1, 1) := by decide +kernel
theorem dX4_isOne_5 : decode cX4_isOne 5 = .ok (.if_icmp .ne 7, 3) := by decide +kernel
theorem dX4_isOne_8 : decode cX4_isOne 8 = .ok (.iconst 1, 1) := by decide +kernel
theorem dX4_isOne_9 : decode cX4_isOne 9 = .ok (.goto 4, 3) := by decide +kernel
theorem dX4_isOne_12 : decode cX4_isOne 12 = .ok (.iconst 0, 1) := by decide +kernel
theorem dX4_isOne_13 : decode cX4_isOne 13 = .ok (.ireturn, 1) := by decide +kernel
set_option maxRecDepth 20000 in
theorem ggX4_isLeft_X4_isOne : GoodIn wsX4_isLeft wsX4_isOne := goodIn_r _ [4, 5, 6, 7, 8, 9, 10, 11] (by decide +kernel) (by decide +kernel)
set_option maxRecDepth 20000 in
theorem gX4_isLeft_X4_isOne : GoodIn wsX4_isLeft (va_wsS RX4 90 yX4_isOne wsX4_isOne) := goodIn_app (goodIn_of _ (by decide +kernel)) ggX4_isLeft_X4_isOne
theorem dX4_isLeft_0 : decode cX4_isLeft 0 = .ok (.iconst 1, 1) := by decide +kernel
theorem dX4_isLeft_1 : decode cX4_isLeft 1 = .ok (.istore_n 1, 1) := by decide +kernel
theorem dX4_isLeft_2 : decode cX4_isLeft 2 = .ok (.iload_n 1, 1) := by decide +kernel
theorem dX4_isLeft_3 : decode cX4_isLeft 3 = .ok (.ifCond .eq 84, 3) := by decide +kernel
theorem dX4_isLeft_6 : decode cX4_isLeft 6 = .ok (.iconst 0, 1) := by decide +kernel
theorem dX4_isLeft_7 : decode cX4_isLeft 7 = .ok (.istore_n 1, 1) := by decide +kernel
theorem dX4_isLeft_8 : decode cX4_isLeft 8 = .ok (.iconst 0, 1) := by decide +kernel
theorem dX4_isLeft_9 : decode cX4_isLeft 9 = .ok (.istore_n 2, 1) := by decide +kernel
theorem dX4_isLeft_10 : decode cX4_isLeft 10 = .ok (.iload_n 2, 1) := by decide +kernel
theorem dX4_isLeft_11 : decode cX4_isLeft 11 = .ok (.bipush 16, 2) := by decide +kernel
theorem dX4_isLeft_13 : decode cX4_isLeft 13 = .ok (.if_icmp .ge 71, 3) := by decide +kernel
theorem dX4_isLeft_16 : decode cX4_isLeft 16 = .ok (.iconst 0, 1) := by decide +kernel
theorem dX4_isLeft_17 : decode cX4_isLeft 17 = .ok (.istore_n 3, 1) := by decide +kernel
theorem dX4_isLeft_18 : decode cX4_isLeft 18 = .ok (.iload_n 3, 1) := by decide +kernel
theorem dX4_isLeft_19 : decode cX4_isLeft 19 = .ok (.bipush 16, 2) := by decide +kernel
theorem dX4_isLeft_21 : decode cX4_isLeft 21 = .ok (.if_icmp .ge 57, 3) := by decide +kernel
theorem dX4_isLeft_24 : decode cX4_isLeft 24 = .ok (.aload_n 0, 1) := by decide +kernel
theorem dX4_isLeft_25 : decode cX4_isLeft 25 = .ok (.iload_n 2, 1) := by decide +kernel
theorem dX4_isLeft_26 : decode cX4_isLeft 26 = .ok (.iaload, 1) := by decide +kernel
theorem dX4_isLeft_27 : decode cX4_isLeft 27 = .ok (.invokestatic 90, 3) := by decide +kernel
theorem dX4_isLeft_30 : decode cX4_isLeft 30 = .ok (.ifCond .eq 48, 3) := by decide +kernel
theorem dX4_isLeft_33 : decode cX4_isLeft 33 = .ok (.iload_n 3, 1) := by decide +kernel
theorem dX4_isLeft_34 : decode cX4_isLeft 34 = .ok (.iload_n 2, 1) := by decide +kernel
theorem dX4_isLeft_35 : decode cX4_isLeft 35 = .ok (.if_icmp .eq 37, 3) := by decide +kernel
theorem dX4_isLeft_38 : decode cX4_isLeft 38 = .ok (.aload_n 0, 1) := by decide +kernel
theorem dX4_isLeft_39 : decode cX4_isLeft 39 = .ok (.iload_n 3, 1) := by decide +kernel
theorem dX4_isLeft_40 : decode cX4_isLeft 40 = .ok (.iaload, 1) := by decide +kernel
theorem dX4_isLeft_41 : decode cX4_isLeft 41 = .ok (.aload_n 0, 1) := by decide +kernel
theorem dX4_isLeft_42 : decode cX4_isLeft 42 = .ok (.iload_n 2, 1) := by decide +kernel
theorem dX4_isLeft_43 : decode cX4_isLeft 43 = .ok (.iaload, 1) := by decide +kernel
theorem dX4_isLeft_44 : decode cX4_isLeft 44 = .ok (.iand, 1) := by decide +kernel
theorem dX4_isLeft_45 : decode cX4_isLeft 45 = .ok (.ifCond .ne 6, 3) := by decide +kernel
theorem dX4_isLeft_48 : decode cX4_isLeft 48 = .ok (.goto 24, 3) := by decide +kernel
theorem dX4_isLeft_51 : decode cX4_isLeft 51 = .ok (.aload_n 0, 1) := by decide +kernel
theorem dX4_isLeft_52 : decode cX4_isLeft 52 = .ok (.iload_n 3, 1) := by decide +kernel
theorem dX4_isLeft_53 : decode cX4_isLeft 53 = .ok (.dup2, 1) := by decide +kernel
theorem dX4_isLeft_54 : decode cX4_isLeft 54 = .ok (.iaload, 1) := by decide +kernel
theorem dX4_isLeft_55 : decode cX4_isLeft 55 = .ok (.aload_n 0, 1) := by decide +kernel
theorem dX4_isLeft_56 : decode cX4_isLeft 56 = .ok (.iload_n 2, 1) := by decide +kernel
theorem dX4_isLeft_57 : decode cX4_isLeft 57 = .ok (.iaload, 1) := by decide +kernel
theorem dX4_isLeft_58 : decode cX4_isLeft 58 = .ok (.iconst (-1), 1) := by decide +kernel
theorem dX4_isLeft_59 : decode cX4_isLeft 59 = .ok (.ixor, 1) := by decide +kernel
theorem dX4_isLeft_60 : decode cX4_isLeft 60 = .ok (.iand, 1) := by decide +kernel
theorem dX4_isLeft_61 : decode cX4_isLeft 61 = .ok (.iastore, 1) := by decide +kernel
theorem dX4_isLeft_62 : decode cX4_isLeft 62 = .ok (.iconst 1, 1) := by decide +kernel
theorem dX4_isLeft_63 : decode cX4_isLeft 63 = .ok (.istore_n 1, 1) := by decide +kernel
theorem dX4_isLeft_64 : decode cX4_isLeft 64 = .ok (.aload_n 0, 1) := by decide +kernel
theorem dX4_isLeft_65 : decode cX4_isLeft 65 = .ok (.iload_n 3, 1) := by decide +kernel
theorem dX4_isLeft_66 : decode cX4_isLeft 66 = .ok (.iaload, 1) := by decide +kernel
theorem dX4_isLeft_67 : decode cX4_isLeft 67 = .ok (.ifCond .ne 5, 3) := by decide +kernel
theorem dX4_isLeft_70 : decode cX4_isLeft 70 = .ok (.iconst 0, 1) := by decide +kernel
theorem dX4_isLeft_71 : decode cX4_isLeft 71 = .ok (.ireturn, 1) := by decide +kernel
theorem dX4_isLeft_72 : decode cX4_isLeft 72 = .ok (.iinc 3 1, 3) := by decide +kernel
theorem dX4_isLeft_75 : decode cX4_isLeft 75 = .ok (.goto (-57), 3) := by decide +kernel
theorem dX4_isLeft_78 : decode cX4_isLeft 78 = .ok (.iinc 2 1, 3) := by decide +kernel
theorem dX4_isLeft_81 : decode cX4_isLeft 81 = .ok (.goto (-71), 3) := by decide +kernel
theorem dX4_isLeft_84 : decode cX4_isLeft 84 = .ok (.goto (-82), 3) := by decide +kernel
theorem dX4_isLeft_87 : decode cX4_isLeft 87 = .ok (.iconst 1, 1) := by decide +kernel
theorem dX4_isLeft_88 : decode cX4_isLeft 88 = .ok (.ireturn, 1) := by decide +kernel
set_option maxRecDepth 20000 in
theorem ggX4_glimpse_X4_isWatcher : GoodIn wsX4_glimpse wsX4_isWatcher := goodIn_r _ [11, 12, 13, 14, 10, 15, 36, 37, 38, 39, 40, 41, 42, 43, 44, 45, 46, 47, 48, 49] (by decide +kernel) (by decide +kernel)
set_option maxRecDepth 20000 in
theorem gX4_glimpse_X4_isWatcher : GoodIn wsX4_glimpse (wsV RX4 93 RX4 yX4_isWatcher wsX4_isWatcher) := goodIn_app (goodIn_of _ (by decide +kernel)) ggX4_glimpse_X4_isWatcher
set_option maxRecDepth 20000 in
theorem ggX4_glimpse_X4_isPlace : GoodIn wsX4_glimpse wsX4_isPlace := goodIn_r _ [18, 13, 14, 10, 15] (by decide +kernel) (by decide +kernel)
set_option maxRecDepth 20000 in
theorem gX4_glimpse_X4_isPlace : GoodIn wsX4_glimpse (va_wsS RX4 77 yX4_isPlace wsX4_isPlace) := goodIn_app (goodIn_of _ (by decide +kernel)) ggX4_glimpse_X4_isPlace
set_option maxRecDepth 20000 in
theorem ggX4_glimpse_X4_no : GoodIn wsX4_glimpse wsX4_no := goodIn_r _ [22, 1, 36, 37, 38, 39, 40, 41, 42, 43, 44, 45, 46, 47, 48, 49] (by decide +kernel) (by decide +kernel)
set_option maxRecDepth 20000 in
theorem gX4_glimpse_X4_no : GoodIn wsX4_glimpse (wsV RX4 63 RX4 yX4_no wsX4_no) := goodIn_app (goodIn_of _ (by decide +kernel)) ggX4_glimpse_X4_no
set_option maxRecDepth 20000 in
theorem ggX4_glimpse_X4_isLeft : GoodIn wsX4_glimpse wsX4_isLeft := goodIn_r _ [25, 26, 27, 10, 28, 29, 30, 31, 32, 33, 34, 35] (by decide +kernel) (by decide +kernel)
set_option maxRecDepth 20000 in
theorem gX4_glimpse_X4_isLeft : GoodIn wsX4_glimpse (va_wsS RX4 96 yX4_isLeft wsX4_isLeft) := goodIn_app (goodIn_of _ (by decide +kernel)) ggX4_glimpse_X4_isLeft
theorem dX4_glimpse_0 : decode cX4_glimpse 0 = .ok (.aload_n 0, 1) := by decide +kernel
theorem dX4_glimpse_1 : decode cX4_glimpse 1 = .ok (.iconst 0, 1) := by decide +kernel
theorem dX4_glimpse_2 : decode cX4_glimpse 2 = .ok (.putfield 33, 3) := by decide +kernel
theorem dX4_glimpse_5 : decode cX4_glimpse 5 = .ok (.aload_n 0, 1) := by decide +kernel
theorem dX4_glimpse_6 : decode cX4_glimpse 6 = .ok (.iload_n 1, 1) := by decide +kernel
theorem dX4_glimpse_7 : decode cX4_glimpse 7 = .ok (.invokevirtual 93, 3) := by decide +kernel
theorem dX4_glimpse_10 : decode cX4_glimpse 10 = .ok (.ifCond .eq 10, 3) := by decide +kernel
theorem dX4_glimpse_13 : decode cX4_glimpse 13 = .ok (.iload_n 2, 1) := by decide +kernel
theorem dX4_glimpse_14 : decode cX4_glimpse 14 = .ok (.invokestatic 77, 3) := by decide +kernel
theorem dX4_glimpse_17 : decode cX4_glimpse 17 = .ok (.ifCond .ne 9, 3) := by decide +kernel
theorem dX4_glimpse_20 : decode cX4_glimpse 20 = .ok (.aload_n 0, 1) := by decide +kernel
theorem dX4_glimpse_21 : decode cX4_glimpse 21 = .ok (.iconst 1, 1) := by decide +kernel
theorem dX4_glimpse_22 : decode cX4_glimpse 22 = .ok (.invokevirtual 63, 3) := by decide +kernel
theorem dX4_glimpse_25 : decode cX4_glimpse 25 = .ok (.ireturn, 1) := by decide +kernel
theorem dX4_glimpse_26 : decode cX4_glimpse 26 = .ok (.aload_n 0, 1) := by decide +kernel
theorem dX4_glimpse_27 : decode cX4_glimpse 27 = .ok (.getfield 18, 3) := by decide +kernel
theorem dX4_glimpse_30 : decode cX4_glimpse 30 = .ok (.iload_n 1, 1) := by decide +kernel
theorem dX4_glimpse_31 : decode cX4_glimpse 31 = .ok (.aaload, 1) := by decide +kernel
theorem dX4_glimpse_32 : decode cX4_glimpse 32 = .ok (.astore_n 3, 1) := by decide +kernel
theorem dX4_glimpse_33 : decode cX4_glimpse 33 = .ok (.iconst 1, 1) := by decide +kernel
theorem dX4_glimpse_34 : decode cX4_glimpse 34 = .ok (.aload_n 0, 1) := by decide +kernel
theorem dX4_glimpse_35 : decode cX4_glimpse 35 = .ok (.getfield 9, 3) := by decide +kernel
theorem dX4_glimpse_38 : decode cX4_glimpse 38 = .ok (.iload_n 2, 1) := by decide +kernel
theorem dX4_glimpse_39 : decode cX4_glimpse 39 = .ok (.iaload, 1) := by decide +kernel
theorem dX4_glimpse_40 : decode cX4_glimpse 40 = .ok (.ishl, 1) := by decide +kernel
theorem dX4_glimpse_41 : decode cX4_glimpse 41 = .ok (.istore 4, 2) := by decide +kernel
theorem dX4_glimpse_43 : decode cX4_glimpse 43 = .ok (.aload_n 0, 1) := by decide +kernel
theorem dX4_glimpse_44 : decode cX4_glimpse 44 = .ok (.getfield 24, 3) := by decide +kernel
theorem dX4_glimpse_47 : decode cX4_glimpse 47 = .ok (.iload_n 1, 1) := by decide +kernel
theorem dX4_glimpse_48 : decode cX4_glimpse 48 = .ok (.dup2, 1) := by decide +kernel
theorem dX4_glimpse_49 : decode cX4_glimpse 49 = .ok (.iaload, 1) := by decide +kernel
theorem dX4_glimpse_50 : decode cX4_glimpse 50 = .ok (.iconst 1, 1) := by decide +kernel
theorem dX4_glimpse_51 : decode cX4_glimpse 51 = .ok (.iadd, 1) := by decide +kernel
theorem dX4_glimpse_52 : decode cX4_glimpse 52 = .ok (.iastore, 1) := by decide +kernel
theorem dX4_glimpse_53 : decode cX4_glimpse 53 = .ok (.aload_n 3, 1) := by decide +kernel
theorem dX4_glimpse_54 : decode cX4_glimpse 54 = .ok (.iload_n 2, 1) := by decide +kernel
theorem dX4_glimpse_55 : decode cX4_glimpse 55 = .ok (.iload 4, 2) := by decide +kernel
theorem dX4_glimpse_57 : decode cX4_glimpse 57 = .ok (.iastore, 1) := by decide +kernel
theorem dX4_glimpse_58 : decode cX4_glimpse 58 = .ok (.aload_n 3, 1) := by decide +kernel
theorem dX4_glimpse_59 : decode cX4_glimpse 59 = .ok (.invokestatic 96, 3) := by decide +kernel
theorem dX4_glimpse_62 : decode cX4_glimpse 62 = .ok (.ifCond .eq 10, 3) := by decide +kernel
theorem dX4_glimpse_65 : decode cX4_glimpse 65 = .ok (.aload_n 0, 1) := by decide +kernel
theorem dX4_glimpse_66 : decode cX4_glimpse 66 = .ok (.getfield 9, 3) := by decide +kernel
theorem dX4_glimpse_69 : decode cX4_glimpse 69 = .ok (.iload_n 2, 1) := by decide +kernel
theorem dX4_glimpse_70 : decode cX4_glimpse 70 = .ok (.iaload, 1) := by decide +kernel
theorem dX4_glimpse_71 : decode cX4_glimpse 71 = .ok (.ireturn, 1) := by decide +kernel
theorem dX4_glimpse_72 : decode cX4_glimpse 72 = .ok (.aload_n 0, 1) := by decide +kernel
theorem dX4_glimpse_73 : decode cX4_glimpse 73 = .ok (.getfield 21, 3) := by decide +kernel
theorem dX4_glimpse_76 : decode cX4_glimpse 76 = .ok (.iload_n 1, 1) := by decide +kernel
theorem dX4_glimpse_77 : decode cX4_glimpse 77 = .ok (.dup2, 1) := by decide +kernel
theorem dX4_glimpse_78 : decode cX4_glimpse 78 = .ok (.iaload, 1) := by decide +kernel
theorem dX4_glimpse_79 : decode cX4_glimpse 79 = .ok (.iconst 1, 1) := by decide +kernel
theorem dX4_glimpse_80 : decode cX4_glimpse 80 = .ok (.iadd, 1) := by decide +kernel
theorem dX4_glimpse_81 : decode cX4_glimpse 81 = .ok (.iastore, 1) := by decide +kernel
theorem dX4_glimpse_82 : decode cX4_glimpse 82 = .ok (.iconst 0, 1) := by decide +kernel
theorem dX4_glimpse_83 : decode cX4_glimpse 83 = .ok (.istore 5, 2) := by decide +kernel
theorem dX4_glimpse_85 : decode cX4_glimpse 85 = .ok (.iload 5, 2) := by decide +kernel
theorem dX4_glimpse_87 : decode cX4_glimpse 87 = .ok (.bipush 16, 2) := by decide +kernel
theorem dX4_glimpse_89 : decode cX4_glimpse 89 = .ok (.if_icmp .ge 31, 3) := by decide +kernel
theorem dX4_glimpse_92 : decode cX4_glimpse 92 = .ok (.aload_n 3, 1) := by decide +kernel
theorem dX4_glimpse_93 : decode cX4_glimpse 93 = .ok (.iload 5, 2) := by decide +kernel
theorem dX4_glimpse_95 : decode cX4_glimpse 95 = .ok (.iload 5, 2) := by decide +kernel
theorem dX4_glimpse_97 : decode cX4_glimpse 97 = .ok (.iload_n 2, 1) := by decide +kernel
theorem dX4_glimpse_98 : decode cX4_glimpse 98 = .ok (.if_icmp .ne 8, 3) := by decide +kernel
theorem dX4_glimpse_101 : decode cX4_glimpse 101 = .ok (.iload 4, 2) := by decide +kernel
theorem dX4_glimpse_103 : decode cX4_glimpse 103 = .ok (.goto 10, 3) := by decide +kernel
theorem dX4_glimpse_106 : decode cX4_glimpse 106 = .ok (.ldc 84, 2) := by decide +kernel
theorem dX4_glimpse_108 : decode cX4_glimpse 108 = .ok (.iload 4, 2) := by decide +kernel
theorem dX4_glimpse_110 : decode cX4_glimpse 110 = .ok (.iconst (-1), 1) := by decide +kernel
theorem dX4_glimpse_111 : decode cX4_glimpse 111 = .ok (.ixor, 1) := by decide +kernel
theorem dX4_glimpse_112 : decode cX4_glimpse 112 = .ok (.iand, 1) := by decide +kernel
theorem dX4_glimpse_113 : decode cX4_glimpse 113 = .ok (.iastore, 1) := by decide +kernel
theorem dX4_glimpse_114 : decode cX4_glimpse 114 = .ok (.iinc 5 1, 3) := by decide +kernel
theorem dX4_glimpse_117 : decode cX4_glimpse 117 = .ok (.goto (-32), 3) := by decide +kernel
theorem dX4_glimpse_120 : decode cX4_glimpse 120 = .ok (.aload_n 0, 1) := by decide +kernel
theorem dX4_glimpse_121 : decode cX4_glimpse 121 = .ok (.getfield 9, 3) := by decide +kernel
theorem dX4_glimpse_124 : decode cX4_glimpse 124 = .ok (.iload_n 2, 1) := by decide +kernel
theorem dX4_glimpse_125 : decode cX4_glimpse 125 = .ok (.iaload, 1) := by decide +kernel
theorem dX4_glimpse_126 : decode cX4_glimpse 126 = .ok (.ireturn, 1) := by decide +kernel
set_option maxRecDepth 20000 in
theorem ggX4_thinks_X4_isWatcher : GoodIn wsX4_thinks wsX4_isWatcher := goodIn_r _ [7, 8, 9, 10, 6, 11, 19, 20, 21, 22, 23, 24, 25, 26, 27, 28, 29, 30, 31, 32] (by decide +kernel) (by decide +kernel)
set_option maxRecDepth 20000 in
theorem gX4_thinks_X4_isWatcher : GoodIn wsX4_thinks (wsV RX4 93 RX4 yX4_isWatcher wsX4_isWatcher) := goodIn_app (goodIn_of _ (by decide +kernel)) ggX4_thinks_X4_isWatcher
set_option maxRecDepth 20000 in
theorem ggX4_thinks_X4_isPlace : GoodIn wsX4_thinks wsX4_isPlace := goodIn_r _ [14, 9, 10, 6, 11] (by decide +kernel) (by decide +kernel)
set_option maxRecDepth 20000 in
theorem gX4_thinks_X4_isPlace : GoodIn wsX4_thinks (va_wsS RX4 77 yX4_isPlace wsX4_isPlace) := goodIn_app (goodIn_of _ (by decide +kernel)) ggX4_thinks_X4_isPlace
set_option maxRecDepth 20000 in
theorem ggX4_thinks_X4_no : GoodIn wsX4_thinks wsX4_no := goodIn_r _ [18, 1, 19, 20, 21, 22, 23, 24, 25, 26, 27, 28, 29, 30, 31, 32] (by decide +kernel) (by decide +kernel)
set_option maxRecDepth 20000 in
theorem gX4_thinks_X4_no : GoodIn wsX4_thinks (wsV RX4 63 RX4 yX4_no wsX4_no) := goodIn_app (goodIn_of _ (by decide +kernel)) ggX4_thinks_X4_no
theorem dX4_thinks_0 : decode cX4_thinks 0 = .ok (.aload_n 0, 1) := by decide +kernel
theorem dX4_thinks_1 : decode cX4_thinks 1 = .ok (.iconst 0, 1) := by decide +kernel
theorem dX4_thinks_2 : decode cX4_thinks 2 = .ok (.putfield 33, 3) := by decide +kernel
theorem dX4_thinks_5 : decode cX4_thinks 5 = .ok (.aload_n 0, 1) := by decide +kernel
theorem dX4_thinks_6 : decode cX4_thinks 6 = .ok (.iload_n 1, 1) := by decide +kernel
theorem dX4_thinks_7 : decode cX4_thinks 7 = .ok (.invokevirtual 93, 3) := by decide +kernel
theorem dX4_thinks_10 : decode cX4_thinks 10 = .ok (.ifCond .eq 21, 3) := by decide +kernel
theorem dX4_thinks_13 : decode cX4_thinks 13 = .ok (.iload_n 2, 1) := by decide +kernel
theorem dX4_thinks_14 : decode cX4_thinks 14 = .ok (.invokestatic 77, 3) := by decide +kernel
theorem dX4_thinks_17 : decode cX4_thinks 17 = .ok (.ifCond .eq 14, 3) := by decide +kernel
theorem dX4_thinks_20 : decode cX4_thinks 20 = .ok (.aload_n 0, 1) := by decide +kernel
theorem dX4_thinks_21 : decode cX4_thinks 21 = .ok (.getfield 18, 3) := by decide +kernel
theorem dX4_thinks_24 : decode cX4_thinks 24 = .ok (.iload_n 1, 1) := by decide +kernel
theorem dX4_thinks_25 : decode cX4_thinks 25 = .ok (.aaload, 1) := by decide +kernel
theorem dX4_thinks_26 : decode cX4_thinks 26 = .ok (.iload_n 2, 1) := by decide +kernel
theorem dX4_thinks_27 : decode cX4_thinks 27 = .ok (.iaload, 1) := by decide +kernel
theorem dX4_thinks_28 : decode cX4_thinks 28 = .ok (.goto 8, 3) := by decide +kernel
theorem dX4_thinks_31 : decode cX4_thinks 31 = .ok (.aload_n 0, 1) := by decide +kernel
theorem dX4_thinks_32 : decode cX4_thinks 32 = .ok (.iconst 1, 1) := by decide +kernel
theorem dX4_thinks_33 : decode cX4_thinks 33 = .ok (.invokevirtual 63, 3) := by decide +kernel
theorem dX4_thinks_36 : decode cX4_thinks 36 = .ok (.ireturn, 1) := by decide +kernel
set_option maxRecDepth 20000 in
theorem ggX4_sure_X4_isWatcher : GoodIn wsX4_sure wsX4_isWatcher := goodIn_r _ [7, 8, 9, 10, 6, 11, 19, 20, 21, 22, 23, 24, 25, 26, 27, 28, 29, 30, 31, 32] (by decide +kernel) (by decide +kernel)
set_option maxRecDepth 20000 in
theorem gX4_sure_X4_isWatcher : GoodIn wsX4_sure (wsV RX4 93 RX4 yX4_isWatcher wsX4_isWatcher) := goodIn_app (goodIn_of _ (by decide +kernel)) ggX4_sure_X4_isWatcher
set_option maxRecDepth 20000 in
theorem ggX4_sure_X4_isPlace : GoodIn wsX4_sure wsX4_isPlace := goodIn_r _ [14, 9, 10, 6, 11] (by decide +kernel) (by decide +kernel)
set_option maxRecDepth 20000 in
theorem gX4_sure_X4_isPlace : GoodIn wsX4_sure (va_wsS RX4 77 yX4_isPlace wsX4_isPlace) := goodIn_app (goodIn_of _ (by decide +kernel)) ggX4_sure_X4_isPlace
set_option maxRecDepth 20000 in
theorem ggX4_sure_X4_no : GoodIn wsX4_sure wsX4_no := goodIn_r _ [18, 1, 19, 20, 21, 22, 23, 24, 25, 26, 27, 28, 29, 30, 31, 32] (by decide +kernel) (by decide +kernel)
set_option maxRecDepth 20000 in
theorem gX4_sure_X4_no : GoodIn wsX4_sure (wsV RX4 63 RX4 yX4_no wsX4_no) := goodIn_app (goodIn_of _ (by decide +kernel)) ggX4_sure_X4_no
theorem dX4_sure_0 : decode cX4_sure 0 = .ok (.aload_n 0, 1) := by decide +kernel
theorem dX4_sure_1 : decode cX4_sure 1 = .ok (.iconst 0, 1) := by decide +kernel
theorem dX4_sure_2 : decode cX4_sure 2 = .ok (.putfield 33, 3) := by decide +kernel
theorem dX4_sure_5 : decode cX4_sure 5 = .ok (.aload_n 0, 1) := by decide +kernel
theorem dX4_sure_6 : decode cX4_sure 6 = .ok (.iload_n 1, 1) := by decide +kernel
theorem dX4_sure_7 : decode cX4_sure 7 = .ok (.invokevirtual 93, 3) := by decide +kernel
theorem dX4_sure_10 : decode cX4_sure 10 = .ok (.ifCond .eq 10, 3) := by decide +kernel
theorem dX4_sure_13 : decode cX4_sure 13 = .ok (.iload_n 2, 1) := by decide +kernel
theorem dX4_sure_14 : decode cX4_sure 14 = .ok (.invokestatic 77, 3) := by decide +kernel
theorem dX4_sure_17 : decode cX4_sure 17 = .ok (.ifCond .ne 9, 3) := by decide +kernel
theorem dX4_sure_20 : decode cX4_sure 20 = .ok (.aload_n 0, 1) := by decide +kernel
theorem dX4_sure_21 : decode cX4_sure 21 = .ok (.iconst 1, 1) := by decide +kernel
theorem dX4_sure_22 : decode cX4_sure 22 = .ok (.invokevirtual 63, 3) := by decide +kernel
theorem dX4_sure_25 : decode cX4_sure 25 = .ok (.ireturn, 1) := by decide +kernel
theorem dX4_sure_26 : decode cX4_sure 26 = .ok (.iconst 0, 1) := by decide +kernel
theorem dX4_sure_27 : decode cX4_sure 27 = .ok (.istore_n 3, 1) := by decide +kernel
theorem dX4_sure_28 : decode cX4_sure 28 = .ok (.iload_n 3, 1) := by decide +kernel
theorem dX4_sure_29 : decode cX4_sure 29 = .ok (.bipush 16, 2) := by decide +kernel
theorem dX4_sure_31 : decode cX4_sure 31 = .ok (.if_icmp .ge 25, 3) := by decide +kernel
theorem dX4_sure_34 : decode cX4_sure 34 = .ok (.aload_n 0, 1) := by decide +kernel
theorem dX4_sure_35 : decode cX4_sure 35 = .ok (.getfield 18, 3) := by decide +kernel
theorem dX4_sure_38 : decode cX4_sure 38 = .ok (.iload_n 1, 1) := by decide +kernel
theorem dX4_sure_39 : decode cX4_sure 39 = .ok (.aaload, 1) := by decide +kernel
theorem dX4_sure_40 : decode cX4_sure 40 = .ok (.iload_n 3, 1) := by decide +kernel
theorem dX4_sure_41 : decode cX4_sure 41 = .ok (.iaload, 1) := by decide +kernel
theorem dX4_sure_42 : decode cX4_sure 42 = .ok (.iconst 1, 1) := by decide +kernel
theorem dX4_sure_43 : decode cX4_sure 43 = .ok (.iload_n 2, 1) := by decide +kernel
theorem dX4_sure_44 : decode cX4_sure 44 = .ok (.ishl, 1) := by decide +kernel
theorem dX4_sure_45 : decode cX4_sure 45 = .ok (.if_icmp .ne 5, 3) := by decide +kernel
theorem dX4_sure_48 : decode cX4_sure 48 = .ok (.iload_n 3, 1) := by decide +kernel
theorem dX4_sure_49 : decode cX4_sure 49 = .ok (.ireturn, 1) := by decide +kernel
theorem dX4_sure_50 : decode cX4_sure 50 = .ok (.iinc 3 1, 3) := by decide +kernel
theorem dX4_sure_53 : decode cX4_sure 53 = .ok (.goto (-25), 3) := by decide +kernel
theorem dX4_sure_56 : decode cX4_sure 56 = .ok (.iconst (-1), 1) := by decide +kernel
theorem dX4_sure_57 : decode cX4_sure 57 = .ok (.ireturn, 1) := by decide +kernel
set_option maxRecDepth 20000 in
theorem ggX4_watcherTold_X4_isOne : GoodIn wsX4_watcherTold wsX4_isOne := goodIn_r _ [10, 11, 12, 13, 14, 15, 16, 17] (by decide +kernel) (by decide +kernel)
set_option maxRecDepth 20000 in
theorem gX4_watcherTold_X4_isOne : GoodIn wsX4_watcherTold (va_wsS RX4 90 yX4_isOne wsX4_isOne) := goodIn_app (goodIn_of _ (by decide +kernel)) ggX4_watcherTold_X4_isOne
theorem dX4_watcherTold_0 : decode cX4_watcherTold 0 = .ok (.iconst 0, 1) := by decide +kernel
theorem dX4_watcherTold_1 : decode cX4_watcherTold 1 = .ok (.istore_n 3, 1) := by decide +kernel
theorem dX4_watcherTold_2 : decode cX4_watcherTold 2 = .ok (.iconst 0, 1) := by decide +kernel
theorem dX4_watcherTold_3 : decode cX4_watcherTold 3 = .ok (.istore 4, 2) := by decide +kernel
theorem dX4_watcherTold_5 : decode cX4_watcherTold 5 = .ok (.iconst 0, 1) := by decide +kernel
theorem dX4_watcherTold_6 : decode cX4_watcherTold 6 = .ok (.istore 5, 2) := by decide +kernel
theorem dX4_watcherTold_8 : decode cX4_watcherTold 8 = .ok (.iconst 0, 1) := by decide +kernel
theorem dX4_watcherTold_9 : decode cX4_watcherTold 9 = .ok (.istore 6, 2) := by decide +kernel
theorem dX4_watcherTold_11 : decode cX4_watcherTold 11 = .ok (.iload 6, 2) := by decide +kernel
theorem dX4_watcherTold_13 : decode cX4_watcherTold 13 = .ok (.bipush 16, 2) := by decide +kernel
theorem dX4_watcherTold_15 : decode cX4_watcherTold 15 = .ok (.if_icmp .ge 107, 3) := by decide +kernel
theorem dX4_watcherTold_18 : decode cX4_watcherTold 18 = .ok (.aload_n 0, 1) := by decide +kernel
theorem dX4_watcherTold_19 : decode cX4_watcherTold 19 = .ok (.getfield 18, 3) := by decide +kernel
theorem dX4_watcherTold_22 : decode cX4_watcherTold 22 = .ok (.iload_n 1, 1) := by decide +kernel
theorem dX4_watcherTold_23 : decode cX4_watcherTold 23 = .ok (.aaload, 1) := by decide +kernel
theorem dX4_watcherTold_24 : decode cX4_watcherTold 24 = .ok (.iload 6, 2) := by decide +kernel
theorem dX4_watcherTold_26 : decode cX4_watcherTold 26 = .ok (.iaload, 1) := by decide +kernel
theorem dX4_watcherTold_27 : decode cX4_watcherTold 27 = .ok (.aload_n 0, 1) := by decide +kernel
theorem dX4_watcherTold_28 : decode cX4_watcherTold 28 = .ok (.getfield 9, 3) := by decide +kernel
theorem dX4_watcherTold_31 : decode cX4_watcherTold 31 = .ok (.iload 6, 2) := by decide +kernel
theorem dX4_watcherTold_33 : decode cX4_watcherTold 33 = .ok (.iaload, 1) := by decide +kernel
theorem dX4_watcherTold_34 : decode cX4_watcherTold 34 = .ok (.ishr, 1) := by decide +kernel
theorem dX4_watcherTold_35 : decode cX4_watcherTold 35 = .ok (.iconst 1, 1) := by decide +kernel
theorem dX4_watcherTold_36 : decode cX4_watcherTold 36 = .ok (.iand, 1) := by decide +kernel
theorem dX4_watcherTold_37 : decode cX4_watcherTold 37 = .ok (.iconst 1, 1) := by decide +kernel
theorem dX4_watcherTold_38 : decode cX4_watcherTold 38 = .ok (.if_icmp .ne 7, 3) := by decide +kernel
theorem dX4_watcherTold_41 : decode cX4_watcherTold 41 = .ok (.iconst 1, 1) := by decide +kernel
theorem dX4_watcherTold_42 : decode cX4_watcherTold 42 = .ok (.goto 4, 3) := by decide +kernel
theorem dX4_watcherTold_45 : decode cX4_watcherTold 45 = .ok (.iconst 0, 1) := by decide +kernel
theorem dX4_watcherTold_46 : decode cX4_watcherTold 46 = .ok (.istore 7, 2) := by decide +kernel
theorem dX4_watcherTold_48 : decode cX4_watcherTold 48 = .ok (.iload_n 3, 1) := by decide +kernel
theorem dX4_watcherTold_49 : decode cX4_watcherTold 49 = .ok (.iload 7, 2) := by decide +kernel
theorem dX4_watcherTold_51 : decode cX4_watcherTold 51 = .ok (.ifCond .eq 7, 3) := by decide +kernel
theorem dX4_watcherTold_54 : decode cX4_watcherTold 54 = .ok (.iconst 1, 1) := by decide +kernel
theorem dX4_watcherTold_55 : decode cX4_watcherTold 55 = .ok (.goto 4, 3) := by decide +kernel
theorem dX4_watcherTold_58 : decode cX4_watcherTold 58 = .ok (.iconst 0, 1) := by decide +kernel
theorem dX4_watcherTold_59 : decode cX4_watcherTold 59 = .ok (.iadd, 1) := by decide +kernel
theorem dX4_watcherTold_60 : decode cX4_watcherTold 60 = .ok (.istore_n 3, 1) := by decide +kernel
theorem dX4_watcherTold_61 : decode cX4_watcherTold 61 = .ok (.iload 4, 2) := by decide +kernel
theorem dX4_watcherTold_63 : decode cX4_watcherTold 63 = .ok (.aload_n 0, 1) := by decide +kernel
theorem dX4_watcherTold_64 : decode cX4_watcherTold 64 = .ok (.getfield 18, 3) := by decide +kernel
theorem dX4_watcherTold_67 : decode cX4_watcherTold 67 = .ok (.iload_n 1, 1) := by decide +kernel
theorem dX4_watcherTold_68 : decode cX4_watcherTold 68 = .ok (.aaload, 1) := by decide +kernel
theorem dX4_watcherTold_69 : decode cX4_watcherTold 69 = .ok (.iload 6, 2) := by decide +kernel
theorem dX4_watcherTold_71 : decode cX4_watcherTold 71 = .ok (.iaload, 1) := by decide +kernel
theorem dX4_watcherTold_72 : decode cX4_watcherTold 72 = .ok (.invokestatic 90, 3) := by decide +kernel
theorem dX4_watcherTold_75 : decode cX4_watcherTold 75 = .ok (.ifCond .eq 7, 3) := by decide +kernel
theorem dX4_watcherTold_78 : decode cX4_watcherTold 78 = .ok (.iconst 1, 1) := by decide +kernel
theorem dX4_watcherTold_79 : decode cX4_watcherTold 79 = .ok (.goto 4, 3) := by decide +kernel
theorem dX4_watcherTold_82 : decode cX4_watcherTold 82 = .ok (.iconst 0, 1) := by decide +kernel
theorem dX4_watcherTold_83 : decode cX4_watcherTold 83 = .ok (.iadd, 1) := by decide +kernel
theorem dX4_watcherTold_84 : decode cX4_watcherTold 84 = .ok (.istore 4, 2) := by decide +kernel
theorem dX4_watcherTold_86 : decode cX4_watcherTold 86 = .ok (.iload 5, 2) := by decide +kernel
theorem dX4_watcherTold_88 : decode cX4_watcherTold 88 = .ok (.iload 7, 2) := by decide +kernel
theorem dX4_watcherTold_90 : decode cX4_watcherTold 90 = .ok (.ifCond .eq 22, 3) := by decide +kernel
theorem dX4_watcherTold_93 : decode cX4_watcherTold 93 = .ok (.aload_n 0, 1) := by decide +kernel
theorem dX4_watcherTold_94 : decode cX4_watcherTold 94 = .ok (.getfield 18, 3) := by decide +kernel
theorem dX4_watcherTold_97 : decode cX4_watcherTold 97 = .ok (.iload_n 1, 1) := by decide +kernel
theorem dX4_watcherTold_98 : decode cX4_watcherTold 98 = .ok (.aaload, 1) := by decide +kernel
theorem dX4_watcherTold_99 : decode cX4_watcherTold 99 = .ok (.iload 6, 2) := by decide +kernel
theorem dX4_watcherTold_101 : decode cX4_watcherTold 101 = .ok (.iaload, 1) := by decide +kernel
theorem dX4_watcherTold_102 : decode cX4_watcherTold 102 = .ok (.invokestatic 90, 3) := by decide +kernel
theorem dX4_watcherTold_105 : decode cX4_watcherTold 105 = .ok (.ifCond .eq 7, 3) := by decide +kernel
theorem dX4_watcherTold_108 : decode cX4_watcherTold 108 = .ok (.iconst 1, 1) := by decide +kernel
theorem dX4_watcherTold_109 : decode cX4_watcherTold 109 = .ok (.goto 4, 3) := by decide +kernel
theorem dX4_watcherTold_112 : decode cX4_watcherTold 112 = .ok (.iconst 0, 1) := by decide +kernel
theorem dX4_watcherTold_113 : decode cX4_watcherTold 113 = .ok (.iadd, 1) := by decide +kernel
theorem dX4_watcherTold_114 : decode cX4_watcherTold 114 = .ok (.istore 5, 2) := by decide +kernel
theorem dX4_watcherTold_116 : decode cX4_watcherTold 116 = .ok (.iinc 6 1, 3) := by decide +kernel
theorem dX4_watcherTold_119 : decode cX4_watcherTold 119 = .ok (.goto (-108), 3) := by decide +kernel
theorem dX4_watcherTold_122 : decode cX4_watcherTold 122 = .ok (.bipush 6, 2) := by decide +kernel
theorem dX4_watcherTold_124 : decode cX4_watcherTold 124 = .ok (.newarray .int, 2) := by decide +kernel
theorem dX4_watcherTold_126 : decode cX4_watcherTold 126 = .ok (.dup, 1) := by decide +kernel
theorem dX4_watcherTold_127 : decode cX4_watcherTold 127 = .ok (.iconst 0, 1) := by decide +kernel
theorem dX4_watcherTold_128 : decode cX4_watcherTold 128 = .ok (.aload_n 0, 1) := by decide +kernel
theorem dX4_watcherTold_129 : decode cX4_watcherTold 129 = .ok (.getfield 13, 3) := by decide +kernel
theorem dX4_watcherTold_132 : decode cX4_watcherTold 132 = .ok (.iload_n 1, 1) := by decide +kernel
theorem dX4_watcherTold_133 : decode cX4_watcherTold 133 = .ok (.iaload, 1) := by decide +kernel
theorem dX4_watcherTold_134 : decode cX4_watcherTold 134 = .ok (.iastore, 1) := by decide +kernel
theorem dX4_watcherTold_135 : decode cX4_watcherTold 135 = .ok (.dup, 1) := by decide +kernel
theorem dX4_watcherTold_136 : decode cX4_watcherTold 136 = .ok (.iconst 1, 1) := by decide +kernel
theorem dX4_watcherTold_137 : decode cX4_watcherTold 137 = .ok (.iload_n 3, 1) := by decide +kernel
theorem dX4_watcherTold_138 : decode cX4_watcherTold 138 = .ok (.iastore, 1) := by decide +kernel
theorem dX4_watcherTold_139 : decode cX4_watcherTold 139 = .ok (.dup, 1) := by decide +kernel
theorem dX4_watcherTold_140 : decode cX4_watcherTold 140 = .ok (.iconst 2, 1) := by decide +kernel
theorem dX4_watcherTold_141 : decode cX4_watcherTold 141 = .ok (.iload 4, 2) := by decide +kernel
theorem dX4_watcherTold_143 : decode cX4_watcherTold 143 = .ok (.iastore, 1) := by decide +kernel
theorem dX4_watcherTold_144 : decode cX4_watcherTold 144 = .ok (.dup, 1) := by decide +kernel
theorem dX4_watcherTold_145 : decode cX4_watcherTold 145 = .ok (.iconst 3, 1) := by decide +kernel
theorem dX4_watcherTold_146 : decode cX4_watcherTold 146 = .ok (.iload 5, 2) := by decide +kernel
theorem dX4_watcherTold_148 : decode cX4_watcherTold 148 = .ok (.iastore, 1) := by decide +kernel
theorem dX4_watcherTold_149 : decode cX4_watcherTold 149 = .ok (.dup, 1) := by decide +kernel
theorem dX4_watcherTold_150 : decode cX4_watcherTold 150 = .ok (.iconst 4, 1) := by decide +kernel
theorem dX4_watcherTold_151 : decode cX4_watcherTold 151 = .ok (.aload_n 0, 1) := by decide +kernel
theorem dX4_watcherTold_152 : decode cX4_watcherTold 152 = .ok (.getfield 21, 3) := by decide +kernel
theorem dX4_watcherTold_155 : decode cX4_watcherTold 155 = .ok (.iload_n 1, 1) := by decide +kernel
theorem dX4_watcherTold_156 : decode cX4_watcherTold 156 = .ok (.iaload, 1) := by decide +kernel
theorem dX4_watcherTold_157 : decode cX4_watcherTold 157 = .ok (.iastore, 1) := by decide +kernel
theorem dX4_watcherTold_158 : decode cX4_watcherTold 158 = .ok (.dup, 1) := by decide +kernel
theorem dX4_watcherTold_159 : decode cX4_watcherTold 159 = .ok (.iconst 5, 1) := by decide +kernel
theorem dX4_watcherTold_160 : decode cX4_watcherTold 160 = .ok (.aload_n 0, 1) := by decide +kernel
theorem dX4_watcherTold_161 : decode cX4_watcherTold 161 = .ok (.getfield 24, 3) := by decide +kernel
theorem dX4_watcherTold_164 : decode cX4_watcherTold 164 = .ok (.iload_n 1, 1) := by decide +kernel
theorem dX4_watcherTold_165 : decode cX4_watcherTold 165 = .ok (.iaload, 1) := by decide +kernel
theorem dX4_watcherTold_166 : decode cX4_watcherTold 166 = .ok (.iastore, 1) := by decide +kernel
theorem dX4_watcherTold_167 : decode cX4_watcherTold 167 = .ok (.astore 6, 2) := by decide +kernel
theorem dX4_watcherTold_169 : decode cX4_watcherTold 169 = .ok (.aload 6, 2) := by decide +kernel
theorem dX4_watcherTold_171 : decode cX4_watcherTold 171 = .ok (.iload_n 2, 1) := by decide +kernel
theorem dX4_watcherTold_172 : decode cX4_watcherTold 172 = .ok (.iaload, 1) := by decide +kernel
theorem dX4_watcherTold_173 : decode cX4_watcherTold 173 = .ok (.ireturn, 1) := by decide +kernel
set_option maxRecDepth 20000 in
theorem ggX4_watcher_X4_isWatcher : GoodIn wsX4_watcher wsX4_isWatcher := goodIn_r _ [6, 7, 8, 9, 5, 10, 35, 36, 37, 38, 39, 40, 41, 42, 43, 44, 45, 46, 47, 48] (by decide +kernel) (by decide +kernel)
set_option maxRecDepth 20000 in
theorem gX4_watcher_X4_isWatcher : GoodIn wsX4_watcher (wsV RX4 93 RX4 yX4_isWatcher wsX4_isWatcher) := goodIn_app (goodIn_of _ (by decide +kernel)) ggX4_watcher_X4_isWatcher
set_option maxRecDepth 20000 in
theorem ggX4_watcher_X4_isIn : GoodIn wsX4_watcher wsX4_isIn := goodIn_r _ [10] (by decide +kernel) (by decide +kernel)
set_option maxRecDepth 20000 in
theorem gX4_watcher_X4_isIn : GoodIn wsX4_watcher (va_wsS RX4 37 yX4_isIn wsX4_isIn) := goodIn_app (goodIn_of _ (by decide +kernel)) ggX4_watcher_X4_isIn
set_option maxRecDepth 20000 in
theorem ggX4_watcher_X4_watcherTold : GoodIn wsX4_watcher wsX4_watcherTold := goodIn_r _ [14, 15, 16, 17, 18, 19, 20, 21, 22, 5, 23, 24, 25, 26, 27, 28, 29, 30, 35, 36, 37, 38, 39, 40, 41, 42, 43, 44, 45, 46, 47, 48] (by decide +kernel) (by decide +kernel)
set_option maxRecDepth 20000 in
theorem gX4_watcher_X4_watcherTold : GoodIn wsX4_watcher (wsV RX4 100 RX4 yX4_watcherTold wsX4_watcherTold) := goodIn_app (goodIn_of _ (by decide +kernel)) ggX4_watcher_X4_watcherTold
set_option maxRecDepth 20000 in
theorem ggX4_watcher_X4_no : GoodIn wsX4_watcher wsX4_no := goodIn_r _ [34, 1, 35, 36, 37, 38, 39, 40, 41, 42, 43, 44, 45, 46, 47, 48] (by decide +kernel) (by decide +kernel)
set_option maxRecDepth 20000 in
theorem gX4_watcher_X4_no : GoodIn wsX4_watcher (wsV RX4 63 RX4 yX4_no wsX4_no) := goodIn_app (goodIn_of _ (by decide +kernel)) ggX4_watcher_X4_no
theorem dX4_watcher_0 : decode cX4_watcher 0 = .ok (.aload_n 0, 1) := by decide +kernel
theorem dX4_watcher_1 : decode cX4_watcher 1 = .ok (.iconst 0, 1) := by decide +kernel
theorem dX4_watcher_2 : decode cX4_watcher 2 = .ok (.putfield 33, 3) := by decide +kernel
theorem dX4_watcher_5 : decode cX4_watcher 5 = .ok (.aload_n 0, 1) := by decide +kernel
theorem dX4_watcher_6 : decode cX4_watcher 6 = .ok (.iload_n 1, 1) := by decide +kernel
theorem dX4_watcher_7 : decode cX4_watcher 7 = .ok (.invokevirtual 93, 3) := by decide +kernel
theorem dX4_watcher_10 : decode cX4_watcher 10 = .ok (.ifCond .eq 21, 3) := by decide +kernel
theorem dX4_watcher_13 : decode cX4_watcher 13 = .ok (.iload_n 2, 1) := by decide +kernel
theorem dX4_watcher_14 : decode cX4_watcher 14 = .ok (.iconst 0, 1) := by decide +kernel
theorem dX4_watcher_15 : decode cX4_watcher 15 = .ok (.iconst 5, 1) := by decide +kernel
theorem dX4_watcher_16 : decode cX4_watcher 16 = .ok (.invokestatic 37, 3) := by decide +kernel
theorem dX4_watcher_19 : decode cX4_watcher 19 = .ok (.ifCond .eq 12, 3) := by decide +kernel
theorem dX4_watcher_22 : decode cX4_watcher 22 = .ok (.aload_n 0, 1) := by decide +kernel
theorem dX4_watcher_23 : decode cX4_watcher 23 = .ok (.iload_n 1, 1) := by decide +kernel
theorem dX4_watcher_24 : decode cX4_watcher 24 = .ok (.iload_n 2, 1) := by decide +kernel
theorem dX4_watcher_25 : decode cX4_watcher 25 = .ok (.invokevirtual 100, 3) := by decide +kernel
theorem dX4_watcher_28 : decode cX4_watcher 28 = .ok (.goto 8, 3) := by decide +kernel
theorem dX4_watcher_31 : decode cX4_watcher 31 = .ok (.aload_n 0, 1) := by decide +kernel
theorem dX4_watcher_32 : decode cX4_watcher 32 = .ok (.iconst 1, 1) := by decide +kernel
theorem dX4_watcher_33 : decode cX4_watcher 33 = .ok (.invokevirtual 63, 3) := by decide +kernel
theorem dX4_watcher_36 : decode cX4_watcher 36 = .ok (.ireturn, 1) := by decide +kernel
set_option maxRecDepth 20000 in
theorem ggX4_sit_X4_isPlace : GoodIn wsX4_sit wsX4_isPlace := goodIn_r _ [8, 9, 10, 7, 11] (by decide +kernel) (by decide +kernel)
set_option maxRecDepth 20000 in
theorem gX4_sit_X4_isPlace : GoodIn wsX4_sit (va_wsS RX4 77 yX4_isPlace wsX4_isPlace) := goodIn_app (goodIn_of _ (by decide +kernel)) ggX4_sit_X4_isPlace
set_option maxRecDepth 20000 in
theorem ggX4_sit_X4_no : GoodIn wsX4_sit wsX4_no := goodIn_r _ [15, 1, 16, 17, 18, 19, 20, 21, 22, 23, 24, 25, 26, 27, 28, 29] (by decide +kernel) (by decide +kernel)
set_option maxRecDepth 20000 in
theorem gX4_sit_X4_no : GoodIn wsX4_sit (wsV RX4 63 RX4 yX4_no wsX4_no) := goodIn_app (goodIn_of _ (by decide +kernel)) ggX4_sit_X4_no
theorem dX4_sit_0 : decode cX4_sit 0 = .ok (.aload_n 0, 1) := by decide +kernel
theorem dX4_sit_1 : decode cX4_sit 1 = .ok (.iconst 0, 1) := by decide +kernel
theorem dX4_sit_2 : decode cX4_sit 2 = .ok (.putfield 33, 3) := by decide +kernel
theorem dX4_sit_5 : decode cX4_sit 5 = .ok (.iload_n 1, 1) := by decide +kernel
theorem dX4_sit_6 : decode cX4_sit 6 = .ok (.invokestatic 77, 3) := by decide +kernel
theorem dX4_sit_9 : decode cX4_sit 9 = .ok (.ifCond .ne 9, 3) := by decide +kernel
theorem dX4_sit_12 : decode cX4_sit 12 = .ok (.aload_n 0, 1) := by decide +kernel
theorem dX4_sit_13 : decode cX4_sit 13 = .ok (.iconst 1, 1) := by decide +kernel
theorem dX4_sit_14 : decode cX4_sit 14 = .ok (.invokevirtual 63, 3) := by decide +kernel
theorem dX4_sit_17 : decode cX4_sit 17 = .ok (.ireturn, 1) := by decide +kernel
theorem dX4_sit_18 : decode cX4_sit 18 = .ok (.aload_n 0, 1) := by decide +kernel
theorem dX4_sit_19 : decode cX4_sit 19 = .ok (.getfield 44, 3) := by decide +kernel
theorem dX4_sit_22 : decode cX4_sit 22 = .ok (.iconst 4, 1) := by decide +kernel
theorem dX4_sit_23 : decode cX4_sit 23 = .ok (.if_icmp .ne 9, 3) := by decide +kernel
theorem dX4_sit_26 : decode cX4_sit 26 = .ok (.aload_n 0, 1) := by decide +kernel
theorem dX4_sit_27 : decode cX4_sit 27 = .ok (.iconst 2, 1) := by decide +kernel
theorem dX4_sit_28 : decode cX4_sit 28 = .ok (.invokevirtual 63, 3) := by decide +kernel
theorem dX4_sit_31 : decode cX4_sit 31 = .ok (.ireturn, 1) := by decide +kernel
theorem dX4_sit_32 : decode cX4_sit 32 = .ok (.aload_n 0, 1) := by decide +kernel
theorem dX4_sit_33 : decode cX4_sit 33 = .ok (.getfield 27, 3) := by decide +kernel
theorem dX4_sit_36 : decode cX4_sit 36 = .ok (.aload_n 0, 1) := by decide +kernel
theorem dX4_sit_37 : decode cX4_sit 37 = .ok (.getfield 44, 3) := by decide +kernel
theorem dX4_sit_40 : decode cX4_sit 40 = .ok (.iload_n 1, 1) := by decide +kernel
theorem dX4_sit_41 : decode cX4_sit 41 = .ok (.iastore, 1) := by decide +kernel
theorem dX4_sit_42 : decode cX4_sit 42 = .ok (.aload_n 0, 1) := by decide +kernel
theorem dX4_sit_43 : decode cX4_sit 43 = .ok (.getfield 30, 3) := by decide +kernel
theorem dX4_sit_46 : decode cX4_sit 46 = .ok (.aload_n 0, 1) := by decide +kernel
theorem dX4_sit_47 : decode cX4_sit 47 = .ok (.getfield 44, 3) := by decide +kernel
theorem dX4_sit_50 : decode cX4_sit 50 = .ok (.iconst (-1), 1) := by decide +kernel
theorem dX4_sit_51 : decode cX4_sit 51 = .ok (.iastore, 1) := by decide +kernel
theorem dX4_sit_52 : decode cX4_sit 52 = .ok (.aload_n 0, 1) := by decide +kernel
theorem dX4_sit_53 : decode cX4_sit 53 = .ok (.dup, 1) := by decide +kernel
theorem dX4_sit_54 : decode cX4_sit 54 = .ok (.getfield 44, 3) := by decide +kernel
theorem dX4_sit_57 : decode cX4_sit 57 = .ok (.iconst 1, 1) := by decide +kernel
theorem dX4_sit_58 : decode cX4_sit 58 = .ok (.iadd, 1) := by decide +kernel
theorem dX4_sit_59 : decode cX4_sit 59 = .ok (.putfield 44, 3) := by decide +kernel
theorem dX4_sit_62 : decode cX4_sit 62 = .ok (.aload_n 0, 1) := by decide +kernel
theorem dX4_sit_63 : decode cX4_sit 63 = .ok (.getfield 44, 3) := by decide +kernel
theorem dX4_sit_66 : decode cX4_sit 66 = .ok (.iconst 1, 1) := by decide +kernel
theorem dX4_sit_67 : decode cX4_sit 67 = .ok (.isub, 1) := by decide +kernel
theorem dX4_sit_68 : decode cX4_sit 68 = .ok (.ireturn, 1) := by decide +kernel
set_option maxRecDepth 20000 in
theorem ggX4_fan_X4_isPlace : GoodIn wsX4_fan wsX4_isPlace := goodIn_r _ [6, 7, 8, 5, 9] (by decide +kernel) (by decide +kernel)
set_option maxRecDepth 20000 in
theorem gX4_fan_X4_isPlace : GoodIn wsX4_fan (va_wsS RX4 77 yX4_isPlace wsX4_isPlace) := goodIn_app (goodIn_of _ (by decide +kernel)) ggX4_fan_X4_isPlace
set_option maxRecDepth 20000 in
theorem ggX4_fan_X4_no : GoodIn wsX4_fan wsX4_no := goodIn_r _ [13, 1, 14, 15, 16, 17, 18, 19, 20, 21, 22, 23, 24, 25, 26, 27] (by decide +kernel) (by decide +kernel)
set_option maxRecDepth 20000 in
theorem gX4_fan_X4_no : GoodIn wsX4_fan (wsV RX4 63 RX4 yX4_no wsX4_no) := goodIn_app (goodIn_of _ (by decide +kernel)) ggX4_fan_X4_no
theorem dX4_fan_0 : decode cX4_fan 0 = .ok (.aload_n 0, 1) := by decide +kernel
theorem dX4_fan_1 : decode cX4_fan 1 = .ok (.iconst 0, 1) := by decide +kernel
theorem dX4_fan_2 : decode cX4_fan 2 = .ok (.putfield 33, 3) := by decide +kernel
theorem dX4_fan_5 : decode cX4_fan 5 = .ok (.iload_n 1, 1) := by decide +kernel
theorem dX4_fan_6 : decode cX4_fan 6 = .ok (.invokestatic 77, 3) := by decide +kernel
theorem dX4_fan_9 : decode cX4_fan 9 = .ok (.ifCond .ne 9, 3) := by decide +kernel
theorem dX4_fan_12 : decode cX4_fan 12 = .ok (.aload_n 0, 1) := by decide +kernel
theorem dX4_fan_13 : decode cX4_fan 13 = .ok (.iconst 1, 1) := by decide +kernel
theorem dX4_fan_14 : decode cX4_fan 14 = .ok (.invokevirtual 63, 3) := by decide +kernel
theorem dX4_fan_17 : decode cX4_fan 17 = .ok (.ireturn, 1) := by decide +kernel
theorem dX4_fan_18 : decode cX4_fan 18 = .ok (.aload_n 0, 1) := by decide +kernel
theorem dX4_fan_19 : decode cX4_fan 19 = .ok (.getfield 104, 3) := by decide +kernel
theorem dX4_fan_22 : decode cX4_fan 22 = .ok (.istore_n 2, 1) := by decide +kernel
theorem dX4_fan_23 : decode cX4_fan 23 = .ok (.aload_n 0, 1) := by decide +kernel
theorem dX4_fan_24 : decode cX4_fan 24 = .ok (.iload_n 1, 1) := by decide +kernel
theorem dX4_fan_25 : decode cX4_fan 25 = .ok (.putfield 104, 3) := by decide +kernel
theorem dX4_fan_28 : decode cX4_fan 28 = .ok (.iload_n 2, 1) := by decide +kernel
theorem dX4_fan_29 : decode cX4_fan 29 = .ok (.ireturn, 1) := by decide +kernel
set_option maxRecDepth 20000 in
theorem ggX4_take_X4_isPlayer : GoodIn wsX4_take wsX4_isPlayer := goodIn_r _ [11, 12, 13, 14, 10, 15, 20, 21, 22, 23, 24, 25, 26, 27, 28, 29, 30, 31, 32, 33] (by decide +kernel) (by decide +kernel)
set_option maxRecDepth 20000 in
theorem gX4_take_X4_isPlayer : GoodIn wsX4_take (wsV RX4 107 RX4 yX4_isPlayer wsX4_isPlayer) := goodIn_app (goodIn_of _ (by decide +kernel)) ggX4_take_X4_isPlayer
set_option maxRecDepth 20000 in
theorem ggX4_take_X4_no : GoodIn wsX4_take wsX4_no := goodIn_r _ [19, 1, 20, 21, 22, 23, 24, 25, 26, 27, 28, 29, 30, 31, 32, 33] (by decide +kernel) (by decide +kernel)
set_option maxRecDepth 20000 in
theorem gX4_take_X4_no : GoodIn wsX4_take (wsV RX4 63 RX4 yX4_no wsX4_no) := goodIn_app (goodIn_of _ (by decide +kernel)) ggX4_take_X4_no
theorem dX4_take_0 : decode cX4_take 0 = .ok (.aload_n 0, 1) := by decide +kernel
theorem dX4_take_1 : decode cX4_take 1 = .ok (.iconst 0, 1) := by decide +kernel
theorem dX4_take_2 : decode cX4_take 2 = .ok (.putfield 33, 3) := by decide +kernel
theorem dX4_take_5 : decode cX4_take 5 = .ok (.aload_n 0, 1) := by decide +kernel
theorem dX4_take_6 : decode cX4_take 6 = .ok (.iload_n 1, 1) := by decide +kernel
theorem dX4_take_7 : decode cX4_take 7 = .ok (.invokevirtual 107, 3) := by decide +kernel
theorem dX4_take_10 : decode cX4_take 10 = .ok (.ifCond .ne 9, 3) := by decide +kernel
theorem dX4_take_13 : decode cX4_take 13 = .ok (.aload_n 0, 1) := by decide +kernel
theorem dX4_take_14 : decode cX4_take 14 = .ok (.iconst 1, 1) := by decide +kernel
theorem dX4_take_15 : decode cX4_take 15 = .ok (.invokevirtual 63, 3) := by decide +kernel
theorem dX4_take_18 : decode cX4_take 18 = .ok (.ireturn, 1) := by decide +kernel
theorem dX4_take_19 : decode cX4_take 19 = .ok (.aload_n 0, 1) := by decide +kernel
theorem dX4_take_20 : decode cX4_take 20 = .ok (.getfield 30, 3) := by decide +kernel
theorem dX4_take_23 : decode cX4_take 23 = .ok (.iload_n 1, 1) := by decide +kernel
theorem dX4_take_24 : decode cX4_take 24 = .ok (.aload_n 0, 1) := by decide +kernel
theorem dX4_take_25 : decode cX4_take 25 = .ok (.getfield 9, 3) := by decide +kernel
theorem dX4_take_28 : decode cX4_take 28 = .ok (.aload_n 0, 1) := by decide +kernel
theorem dX4_take_29 : decode cX4_take 29 = .ok (.getfield 27, 3) := by decide +kernel
theorem dX4_take_32 : decode cX4_take 32 = .ok (.iload_n 1, 1) := by decide +kernel
theorem dX4_take_33 : decode cX4_take 33 = .ok (.iaload, 1) := by decide +kernel
theorem dX4_take_34 : decode cX4_take 34 = .ok (.aload_n 0, 1) := by decide +kernel
theorem dX4_take_35 : decode cX4_take 35 = .ok (.getfield 104, 3) := by decide +kernel
theorem dX4_take_38 : decode cX4_take 38 = .ok (.iadd, 1) := by decide +kernel
theorem dX4_take_39 : decode cX4_take 39 = .ok (.aload_n 0, 1) := by decide +kernel
theorem dX4_take_40 : decode cX4_take 40 = .ok (.getfield 110, 3) := by decide +kernel
theorem dX4_take_43 : decode cX4_take 43 = .ok (.iadd, 1) := by decide +kernel
theorem dX4_take_44 : decode cX4_take 44 = .ok (.bipush 16, 2) := by decide +kernel
theorem dX4_take_46 : decode cX4_take 46 = .ok (.irem, 1) := by decide +kernel
theorem dX4_take_47 : decode cX4_take 47 = .ok (.iaload, 1) := by decide +kernel
theorem dX4_take_48 : decode cX4_take 48 = .ok (.iastore, 1) := by decide +kernel
theorem dX4_take_49 : decode cX4_take 49 = .ok (.aload_n 0, 1) := by decide +kernel
theorem dX4_take_50 : decode cX4_take 50 = .ok (.dup, 1) := by decide +kernel
theorem dX4_take_51 : decode cX4_take 51 = .ok (.getfield 110, 3) := by decide +kernel
theorem dX4_take_54 : decode cX4_take 54 = .ok (.iconst 1, 1) := by decide +kernel
theorem dX4_take_55 : decode cX4_take 55 = .ok (.iadd, 1) := by decide +kernel
theorem dX4_take_56 : decode cX4_take 56 = .ok (.putfield 110, 3) := by decide +kernel
theorem dX4_take_59 : decode cX4_take 59 = .ok (.aload_n 0, 1) := by decide +kernel
theorem dX4_take_60 : decode cX4_take 60 = .ok (.getfield 30, 3) := by decide +kernel
theorem dX4_take_63 : decode cX4_take 63 = .ok (.iload_n 1, 1) := by decide +kernel
theorem dX4_take_64 : decode cX4_take 64 = .ok (.iaload, 1) := by decide +kernel
theorem dX4_take_65 : decode cX4_take 65 = .ok (.ireturn, 1) := by decide +kernel
set_option maxRecDepth 20000 in
theorem ggX4_force_X4_isPlayer : GoodIn wsX4_force wsX4_isPlayer := goodIn_r _ [8, 9, 10, 11, 7, 12, 29, 30, 31, 32, 33, 34, 35, 36, 37, 38, 39, 40, 41, 42] (by decide +kernel) (by decide +kernel)
set_option maxRecDepth 20000 in
theorem gX4_force_X4_isPlayer : GoodIn wsX4_force (wsV RX4 107 RX4 yX4_isPlayer wsX4_isPlayer) := goodIn_app (goodIn_of _ (by decide +kernel)) ggX4_force_X4_isPlayer
set_option maxRecDepth 20000 in
theorem ggX4_force_X4_isPlace : GoodIn wsX4_force wsX4_isPlace := goodIn_r _ [15, 10, 11, 7, 12] (by decide +kernel) (by decide +kernel)
set_option maxRecDepth 20000 in
theorem gX4_force_X4_isPlace : GoodIn wsX4_force (va_wsS RX4 77 yX4_isPlace wsX4_isPlace) := goodIn_app (goodIn_of _ (by decide +kernel)) ggX4_force_X4_isPlace
set_option maxRecDepth 20000 in
theorem ggX4_force_X4_no : GoodIn wsX4_force wsX4_no := goodIn_r _ [19, 1, 29, 30, 31, 32, 33, 34, 35, 36, 37, 38, 39, 40, 41, 42] (by decide +kernel) (by decide +kernel)
set_option maxRecDepth 20000 in
theorem gX4_force_X4_no : GoodIn wsX4_force (wsV RX4 63 RX4 yX4_no wsX4_no) := goodIn_app (goodIn_of _ (by decide +kernel)) ggX4_force_X4_no
set_option maxRecDepth 20000 in
theorem ggX4_force_X4_placeOf : GoodIn wsX4_force wsX4_placeOf := goodIn_r _ [23, 24, 29, 30, 31, 32, 33, 34, 35, 36, 37, 38, 39, 40, 41, 42] (by decide +kernel) (by decide +kernel)
set_option maxRecDepth 20000 in
theorem gX4_force_X4_placeOf : GoodIn wsX4_force (wsV RX4 81 RX4 yX4_placeOf wsX4_placeOf) := goodIn_app (goodIn_of _ (by decide +kernel)) ggX4_force_X4_placeOf
set_option maxRecDepth 20000 in
theorem ggX4_force_J9_floorMod_7cf53 : GoodIn wsX4_force wsJ9_floorMod_7cf53 := goodIn_r _ [28] (by decide +kernel) (by decide +kernel)
set_option maxRecDepth 20000 in
theorem gX4_force_J9_floorMod_7cf53 : GoodIn wsX4_force (va_wsS RX4 113 yJ9_floorMod_7cf53 wsJ9_floorMod_7cf53) := goodIn_app (goodIn_of _ (by decide +kernel)) ggX4_force_J9_floorMod_7cf53
theorem dX4_force_0 : decode cX4_force 0 = .ok (.aload_n 0, 1) := by decide +kernel
theorem dX4_force_1 : decode cX4_force 1 = .ok (.iconst 0, 1) := by decide +kernel
theorem dX4_force_2 : decode cX4_force 2 = .ok (.putfield 33, 3) := by decide +kernel
theorem dX4_force_5 : decode cX4_force 5 = .ok (.aload_n 0, 1) := by decide +kernel
theorem dX4_force_6 : decode cX4_force 6 = .ok (.iload_n 1, 1) := by decide +kernel
theorem dX4_force_7 : decode cX4_force 7 = .ok (.invokevirtual 107, 3) := by decide +kernel
theorem dX4_force_10 : decode cX4_force 10 = .ok (.ifCond .eq 10, 3) := by decide +kernel
theorem dX4_force_13 : decode cX4_force 13 = .ok (.iload_n 2, 1) := by decide +kernel
theorem dX4_force_14 : decode cX4_force 14 = .ok (.invokestatic 77, 3) := by decide +kernel
theorem dX4_force_17 : decode cX4_force 17 = .ok (.ifCond .ne 9, 3) := by decide +kernel
theorem dX4_force_20 : decode cX4_force 20 = .ok (.aload_n 0, 1) := by decide +kernel
theorem dX4_force_21 : decode cX4_force 21 = .ok (.iconst 1, 1) := by decide +kernel
theorem dX4_force_22 : decode cX4_force 22 = .ok (.invokevirtual 63, 3) := by decide +kernel
theorem dX4_force_25 : decode cX4_force 25 = .ok (.ireturn, 1) := by decide +kernel
theorem dX4_force_26 : decode cX4_force 26 = .ok (.aload_n 0, 1) := by decide +kernel
theorem dX4_force_27 : decode cX4_force 27 = .ok (.iload_n 2, 1) := by decide +kernel
theorem dX4_force_28 : decode cX4_force 28 = .ok (.invokevirtual 81, 3) := by decide +kernel
theorem dX4_force_31 : decode cX4_force 31 = .ok (.aload_n 0, 1) := by decide +kernel
theorem dX4_force_32 : decode cX4_force 32 = .ok (.getfield 27, 3) := by decide +kernel
theorem dX4_force_35 : decode cX4_force 35 = .ok (.iload_n 1, 1) := by decide +kernel
theorem dX4_force_36 : decode cX4_force 36 = .ok (.iaload, 1) := by decide +kernel
theorem dX4_force_37 : decode cX4_force 37 = .ok (.isub, 1) := by decide +kernel
theorem dX4_force_38 : decode cX4_force 38 = .ok (.aload_n 0, 1) := by decide +kernel
theorem dX4_force_39 : decode cX4_force 39 = .ok (.getfield 110, 3) := by decide +kernel
theorem dX4_force_42 : decode cX4_force 42 = .ok (.isub, 1) := by decide +kernel
theorem dX4_force_43 : decode cX4_force 43 = .ok (.bipush 16, 2) := by decide +kernel
theorem dX4_force_45 : decode cX4_force 45 = .ok (.invokestatic 113, 3) := by decide +kernel
theorem dX4_force_48 : decode cX4_force 48 = .ok (.ireturn, 1) := by decide +kernel
set_option maxRecDepth 20000 in
theorem ggX4_took_X4_isPlayer : GoodIn wsX4_took wsX4_isPlayer := goodIn_r _ [7, 8, 9, 10, 6, 11, 16, 17, 18, 19, 20, 21, 22, 23, 24, 25, 26, 27, 28, 29] (by decide +kernel) (by decide +kernel)
set_option maxRecDepth 20000 in
theorem gX4_took_X4_isPlayer : GoodIn wsX4_took (wsV RX4 107 RX4 yX4_isPlayer wsX4_isPlayer) := goodIn_app (goodIn_of _ (by decide +kernel)) ggX4_took_X4_isPlayer
set_option maxRecDepth 20000 in
theorem ggX4_took_X4_no : GoodIn wsX4_took wsX4_no := goodIn_r _ [15, 1, 16, 17, 18, 19, 20, 21, 22, 23, 24, 25, 26, 27, 28, 29] (by decide +kernel) (by decide +kernel)
set_option maxRecDepth 20000 in
theorem gX4_took_X4_no : GoodIn wsX4_took (wsV RX4 63 RX4 yX4_no wsX4_no) := goodIn_app (goodIn_of _ (by decide +kernel)) ggX4_took_X4_no
theorem dX4_took_0 : decode cX4_took 0 = .ok (.aload_n 0, 1) := by decide +kernel
theorem dX4_took_1 : decode cX4_took 1 = .ok (.iconst 0, 1) := by decide +kernel
theorem dX4_took_2 : decode cX4_took 2 = .ok (.putfield 33, 3) := by decide +kernel
theorem dX4_took_5 : decode cX4_took 5 = .ok (.aload_n 0, 1) := by decide +kernel
theorem dX4_took_6 : decode cX4_took 6 = .ok (.iload_n 1, 1) := by decide +kernel
theorem dX4_took_7 : decode cX4_took 7 = .ok (.invokevirtual 107, 3) := by decide +kernel
theorem dX4_took_10 : decode cX4_took 10 = .ok (.ifCond .eq 12, 3) := by decide +kernel
theorem dX4_took_13 : decode cX4_took 13 = .ok (.aload_n 0, 1) := by decide +kernel
theorem dX4_took_14 : decode cX4_took 14 = .ok (.getfield 30, 3) := by decide +kernel
theorem dX4_took_17 : decode cX4_took 17 = .ok (.iload_n 1, 1) := by decide +kernel
theorem dX4_took_18 : decode cX4_took 18 = .ok (.iaload, 1) := by decide +kernel
theorem dX4_took_19 : decode cX4_took 19 = .ok (.goto 8, 3) := by decide +kernel
theorem dX4_took_22 : decode cX4_took 22 = .ok (.aload_n 0, 1) := by decide +kernel
theorem dX4_took_23 : decode cX4_took 23 = .ok (.iconst 1, 1) := by decide +kernel
theorem dX4_took_24 : decode cX4_took 24 = .ok (.invokevirtual 63, 3) := by decide +kernel
theorem dX4_took_27 : decode cX4_took 27 = .ok (.ireturn, 1) := by decide +kernel
theorem dX4_counted_0 : decode cX4_counted 0 = .ok (.iconst 0, 1) := by decide +kernel
theorem dX4_counted_1 : decode cX4_counted 1 = .ok (.istore_n 2, 1) := by decide +kernel
theorem dX4_counted_2 : decode cX4_counted 2 = .ok (.iconst 0, 1) := by decide +kernel
theorem dX4_counted_3 : decode cX4_counted 3 = .ok (.istore_n 3, 1) := by decide +kernel
theorem dX4_counted_4 : decode cX4_counted 4 = .ok (.iload_n 3, 1) := by decide +kernel
theorem dX4_counted_5 : decode cX4_counted 5 = .ok (.bipush 16, 2) := by decide +kernel
theorem dX4_counted_7 : decode cX4_counted 7 = .ok (.if_icmp .ge 27, 3) := by decide +kernel
theorem dX4_counted_10 : decode cX4_counted 10 = .ok (.iload_n 2, 1) := by decide +kernel
theorem dX4_counted_11 : decode cX4_counted 11 = .ok (.aload_n 0, 1) := by decide +kernel
theorem dX4_counted_12 : decode cX4_counted 12 = .ok (.getfield 9, 3) := by decide +kernel
theorem dX4_counted_15 : decode cX4_counted 15 = .ok (.iload_n 3, 1) := by decide +kernel
theorem dX4_counted_16 : decode cX4_counted 16 = .ok (.iaload, 1) := by decide +kernel
theorem dX4_counted_17 : decode cX4_counted 17 = .ok (.iload_n 3, 1) := by decide +kernel
theorem dX4_counted_18 : decode cX4_counted 18 = .ok (.if_icmp .ne 7, 3) := by decide +kernel
theorem dX4_counted_21 : decode cX4_counted 21 = .ok (.iconst 1, 1) := by decide +kernel
theorem dX4_counted_22 : decode cX4_counted 22 = .ok (.goto 4, 3) := by decide +kernel
theorem dX4_counted_25 : decode cX4_counted 25 = .ok (.iconst 0, 1) := by decide +kernel
theorem dX4_counted_26 : decode cX4_counted 26 = .ok (.iadd, 1) := by decide +kernel
theorem dX4_counted_27 : decode cX4_counted 27 = .ok (.istore_n 2, 1) := by decide +kernel
theorem dX4_counted_28 : decode cX4_counted 28 = .ok (.iinc 3 1, 3) := by decide +kernel
theorem dX4_counted_31 : decode cX4_counted 31 = .ok (.goto (-27), 3) := by decide +kernel
theorem dX4_counted_34 : decode cX4_counted 34 = .ok (.bipush 7, 2) := by decide +kernel
theorem dX4_counted_36 : decode cX4_counted 36 = .ok (.newarray .int, 2) := by decide +kernel
theorem dX4_counted_38 : decode cX4_counted 38 = .ok (.dup, 1) := by decide +kernel
theorem dX4_counted_39 : decode cX4_counted 39 = .ok (.iconst 0, 1) := by decide +kernel
theorem dX4_counted_40 : decode cX4_counted 40 = .ok (.aload_n 0, 1) := by decide +kernel
theorem dX4_counted_41 : decode cX4_counted 41 = .ok (.getfield 71, 3) := by decide +kernel
theorem dX4_counted_44 : decode cX4_counted 44 = .ok (.iastore, 1) := by decide +kernel
theorem dX4_counted_45 : decode cX4_counted 45 = .ok (.dup, 1) := by decide +kernel
theorem dX4_counted_46 : decode cX4_counted 46 = .ok (.iconst 1, 1) := by decide +kernel
theorem dX4_counted_47 : decode cX4_counted 47 = .ok (.aload_n 0, 1) := by decide +kernel
theorem dX4_counted_48 : decode cX4_counted 48 = .ok (.getfield 74, 3) := by decide +kernel
theorem dX4_counted_51 : decode cX4_counted 51 = .ok (.iastore, 1) := by decide +kernel
theorem dX4_counted_52 : decode cX4_counted 52 = .ok (.dup, 1) := by decide +kernel
theorem dX4_counted_53 : decode cX4_counted 53 = .ok (.iconst 2, 1) := by decide +kernel
theorem dX4_counted_54 : decode cX4_counted 54 = .ok (.aload_n 0, 1) := by decide +kernel
theorem dX4_counted_55 : decode cX4_counted 55 = .ok (.getfield 41, 3) := by decide +kernel
theorem dX4_counted_58 : decode cX4_counted 58 = .ok (.iastore, 1) := by decide +kernel
theorem dX4_counted_59 : decode cX4_counted 59 = .ok (.dup, 1) := by decide +kernel
theorem dX4_counted_60 : decode cX4_counted 60 = .ok (.iconst 3, 1) := by decide +kernel
theorem dX4_counted_61 : decode cX4_counted 61 = .ok (.aload_n 0, 1) := by decide +kernel
theorem dX4_counted_62 : decode cX4_counted 62 = .ok (.getfield 44, 3) := by decide +kernel
theorem dX4_counted_65 : decode cX4_counted 65 = .ok (.iastore, 1) := by decide +kernel
theorem dX4_counted_66 : decode cX4_counted 66 = .ok (.dup, 1) := by decide +kernel
theorem dX4_counted_67 : decode cX4_counted 67 = .ok (.iconst 4, 1) := by decide +kernel
theorem dX4_counted_68 : decode cX4_counted 68 = .ok (.aload_n 0, 1) := by decide +kernel
theorem dX4_counted_69 : decode cX4_counted 69 = .ok (.getfield 104, 3) := by decide +kernel
theorem dX4_counted_72 : decode cX4_counted 72 = .ok (.iastore, 1) := by decide +kernel
theorem dX4_counted_73 : decode cX4_counted 73 = .ok (.dup, 1) := by decide +kernel
theorem dX4_counted_74 : decode cX4_counted 74 = .ok (.iconst 5, 1) := by decide +kernel
theorem dX4_counted_75 : decode cX4_counted 75 = .ok (.aload_n 0, 1) := by decide +kernel
theorem dX4_counted_76 : decode cX4_counted 76 = .ok (.getfield 110, 3) := by decide +kernel
theorem dX4_counted_79 : decode cX4_counted 79 = .ok (.iastore, 1) := by decide +kernel
theorem dX4_counted_80 : decode cX4_counted 80 = .ok (.dup, 1) := by decide +kernel
theorem dX4_counted_81 : decode cX4_counted 81 = .ok (.bipush 6, 2) := by decide +kernel
theorem dX4_counted_83 : decode cX4_counted 83 = .ok (.iload_n 2, 1) := by decide +kernel
theorem dX4_counted_84 : decode cX4_counted 84 = .ok (.iastore, 1) := by decide +kernel
theorem dX4_counted_85 : decode cX4_counted 85 = .ok (.astore_n 3, 1) := by decide +kernel
theorem dX4_counted_86 : decode cX4_counted 86 = .ok (.aload_n 3, 1) := by decide +kernel
theorem dX4_counted_87 : decode cX4_counted 87 = .ok (.iload_n 1, 1) := by decide +kernel
theorem dX4_counted_88 : decode cX4_counted 88 = .ok (.iaload, 1) := by decide +kernel
theorem dX4_counted_89 : decode cX4_counted 89 = .ok (.ireturn, 1) := by decide +kernel
set_option maxRecDepth 20000 in
theorem ggX4_count_X4_isIn : GoodIn wsX4_count wsX4_isIn := goodIn_r _ [5] (by decide +kernel) (by decide +kernel)
set_option maxRecDepth 20000 in
theorem gX4_count_X4_isIn : GoodIn wsX4_count (va_wsS RX4 37 yX4_isIn wsX4_isIn) := goodIn_app (goodIn_of _ (by decide +kernel)) ggX4_count_X4_isIn
set_option maxRecDepth 20000 in
theorem ggX4_count_X4_counted : GoodIn wsX4_count wsX4_counted := goodIn_r _ [9, 10, 11, 12, 13, 14, 15, 16, 17, 22, 23, 24, 25, 26, 27, 28, 29, 30, 31, 32, 33, 34, 35] (by decide +kernel) (by decide +kernel)
set_option maxRecDepth 20000 in
theorem gX4_count_X4_counted : GoodIn wsX4_count (wsV RX4 118 RX4 yX4_counted wsX4_counted) := goodIn_app (goodIn_of _ (by decide +kernel)) ggX4_count_X4_counted
set_option maxRecDepth 20000 in
theorem ggX4_count_X4_no : GoodIn wsX4_count wsX4_no := goodIn_r _ [21, 1, 22, 23, 24, 25, 26, 27, 28, 29, 30, 31, 32, 33, 34, 35] (by decide +kernel) (by decide +kernel)
set_option maxRecDepth 20000 in
theorem gX4_count_X4_no : GoodIn wsX4_count (wsV RX4 63 RX4 yX4_no wsX4_no) := goodIn_app (goodIn_of _ (by decide +kernel)) ggX4_count_X4_no
theorem dX4_count_0 : decode cX4_count 0 = .ok (.aload_n 0, 1) := by decide +kernel
theorem dX4_count_1 : decode cX4_count 1 = .ok (.iconst 0, 1) := by decide +kernel
theorem dX4_count_2 : decode cX4_count 2 = .ok (.putfield 33, 3) := by decide +kernel
theorem dX4_count_5 : decode cX4_count 5 = .ok (.iload_n 1, 1) := by decide +kernel
theorem dX4_count_6 : decode cX4_count 6 = .ok (.iconst 0, 1) := by decide +kernel
theorem dX4_count_7 : decode cX4_count 7 = .ok (.bipush 6, 2) := by decide +kernel
theorem dX4_count_9 : decode cX4_count 9 = .ok (.invokestatic 37, 3) := by decide +kernel
theorem dX4_count_12 : decode cX4_count 12 = .ok (.ifCond .eq 11, 3) := by decide +kernel
theorem dX4_count_15 : decode cX4_count 15 = .ok (.aload_n 0, 1) := by decide +kernel
theorem dX4_count_16 : decode cX4_count 16 = .ok (.iload_n 1, 1) := by decide +kernel
theorem dX4_count_17 : decode cX4_count 17 = .ok (.invokevirtual 118, 3) := by decide +kernel
theorem dX4_count_20 : decode cX4_count 20 = .ok (.goto 8, 3) := by decide +kernel
theorem dX4_count_23 : decode cX4_count 23 = .ok (.aload_n 0, 1) := by decide +kernel
theorem dX4_count_24 : decode cX4_count 24 = .ok (.iconst 1, 1) := by decide +kernel
theorem dX4_count_25 : decode cX4_count 25 = .ok (.invokevirtual 63, 3) := by decide +kernel
theorem dX4_count_28 : decode cX4_count 28 = .ok (.ireturn, 1) := by decide +kernel
set_option maxRecDepth 20000 in
theorem ggX4_back_X4_isWay : GoodIn wsX4_back wsX4_isWay := goodIn_r _ [5, 6, 7, 4, 8] (by decide +kernel) (by decide +kernel)
set_option maxRecDepth 20000 in
theorem gX4_back_X4_isWay : GoodIn wsX4_back (va_wsS RX4 59 yX4_isWay wsX4_isWay) := goodIn_app (goodIn_of _ (by decide +kernel)) ggX4_back_X4_isWay
set_option maxRecDepth 20000 in
theorem ggX4_back_X4_no : GoodIn wsX4_back wsX4_no := goodIn_r _ [12, 1, 17, 18, 19, 20, 21, 22, 23, 24, 25, 26, 27, 28, 29, 30] (by decide +kernel) (by decide +kernel)
set_option maxRecDepth 20000 in
theorem gX4_back_X4_no : GoodIn wsX4_back (wsV RX4 63 RX4 yX4_no wsX4_no) := goodIn_app (goodIn_of _ (by decide +kernel)) ggX4_back_X4_no
set_option maxRecDepth 20000 in
theorem ggX4_back_X4_to : GoodIn wsX4_back wsX4_to := goodIn_r _ [15, 16] (by decide +kernel) (by decide +kernel)
set_option maxRecDepth 20000 in
theorem gX4_back_X4_to : GoodIn wsX4_back (va_wsS RX4 55 yX4_to wsX4_to) := goodIn_app (goodIn_of _ (by decide +kernel)) ggX4_back_X4_to
theorem dX4_back_0 : decode cX4_back 0 = .ok (.aload_n 0, 1) := by decide +kernel
theorem dX4_back_1 : decode cX4_back 1 = .ok (.iconst 0, 1) := by decide +kernel
theorem dX4_back_2 : decode cX4_back 2 = .ok (.putfield 33, 3) := by decide +kernel
theorem dX4_back_5 : decode cX4_back 5 = .ok (.iload_n 1, 1) := by decide +kernel
theorem dX4_back_6 : decode cX4_back 6 = .ok (.iload_n 2, 1) := by decide +kernel
theorem dX4_back_7 : decode cX4_back 7 = .ok (.invokestatic 59, 3) := by decide +kernel
theorem dX4_back_10 : decode cX4_back 10 = .ok (.ifCond .ne 9, 3) := by decide +kernel
theorem dX4_back_13 : decode cX4_back 13 = .ok (.aload_n 0, 1) := by decide +kernel
theorem dX4_back_14 : decode cX4_back 14 = .ok (.iconst 1, 1) := by decide +kernel
theorem dX4_back_15 : decode cX4_back 15 = .ok (.invokevirtual 63, 3) := by decide +kernel
theorem dX4_back_18 : decode cX4_back 18 = .ok (.ireturn, 1) := by decide +kernel
theorem dX4_back_19 : decode cX4_back 19 = .ok (.iconst 1, 1) := by decide +kernel
theorem dX4_back_20 : decode cX4_back 20 = .ok (.istore_n 3, 1) := by decide +kernel
theorem dX4_back_21 : decode cX4_back 21 = .ok (.iconst 0, 1) := by decide +kernel
theorem dX4_back_22 : decode cX4_back 22 = .ok (.istore 4, 2) := by decide +kernel
theorem dX4_back_24 : decode cX4_back 24 = .ok (.iload 4, 2) := by decide +kernel
theorem dX4_back_26 : decode cX4_back 26 = .ok (.bipush 16, 2) := by decide +kernel
theorem dX4_back_28 : decode cX4_back 28 = .ok (.if_icmp .ge 76, 3) := by decide +kernel
theorem dX4_back_31 : decode cX4_back 31 = .ok (.iconst 1, 1) := by decide +kernel
theorem dX4_back_32 : decode cX4_back 32 = .ok (.istore 5, 2) := by decide +kernel
theorem dX4_back_34 : decode cX4_back 34 = .ok (.iload_n 1, 1) := by decide +kernel
theorem dX4_back_35 : decode cX4_back 35 = .ok (.iload_n 2, 1) := by decide +kernel
theorem dX4_back_36 : decode cX4_back 36 = .ok (.iload 4, 2) := by decide +kernel
theorem dX4_back_38 : decode cX4_back 38 = .ok (.invokestatic 55, 3) := by decide +kernel
theorem dX4_back_41 : decode cX4_back 41 = .ok (.istore 6, 2) := by decide +kernel
theorem dX4_back_43 : decode cX4_back 43 = .ok (.iload 6, 2) := by decide +kernel
theorem dX4_back_45 : decode cX4_back 45 = .ok (.iload 4, 2) := by decide +kernel
theorem dX4_back_47 : decode cX4_back 47 = .ok (.if_icmp .eq 18, 3) := by decide +kernel
theorem dX4_back_50 : decode cX4_back 50 = .ok (.iinc 5 1, 3) := by decide +kernel
theorem dX4_back_53 : decode cX4_back 53 = .ok (.iload_n 1, 1) := by decide +kernel
theorem dX4_back_54 : decode cX4_back 54 = .ok (.iload_n 2, 1) := by decide +kernel
theorem dX4_back_55 : decode cX4_back 55 = .ok (.iload 6, 2) := by decide +kernel
theorem dX4_back_57 : decode cX4_back 57 = .ok (.invokestatic 55, 3) := by decide +kernel
theorem dX4_back_60 : decode cX4_back 60 = .ok (.istore 6, 2) := by decide +kernel
theorem dX4_back_62 : decode cX4_back 62 = .ok (.goto (-19), 3) := by decide +kernel
theorem dX4_back_65 : decode cX4_back 65 = .ok (.iload 5, 2) := by decide +kernel
theorem dX4_back_67 : decode cX4_back 67 = .ok (.istore 6, 2) := by decide +kernel
theorem dX4_back_69 : decode cX4_back 69 = .ok (.iload_n 3, 1) := by decide +kernel
theorem dX4_back_70 : decode cX4_back 70 = .ok (.iload 6, 2) := by decide +kernel
theorem dX4_back_72 : decode cX4_back 72 = .ok (.irem, 1) := by decide +kernel
theorem dX4_back_73 : decode cX4_back 73 = .ok (.ifCond .ne 11, 3) := by decide +kernel
theorem dX4_back_76 : decode cX4_back 76 = .ok (.iload 5, 2) := by decide +kernel
theorem dX4_back_78 : decode cX4_back 78 = .ok (.iload 6, 2) := by decide +kernel
theorem dX4_back_80 : decode cX4_back 80 = .ok (.irem, 1) := by decide +kernel
theorem dX4_back_81 : decode cX4_back 81 = .ok (.ifCond .eq 9, 3) := by decide +kernel
theorem dX4_back_84 : decode cX4_back 84 = .ok (.iinc 6 (-1), 3) := by decide +kernel
theorem dX4_back_87 : decode cX4_back 87 = .ok (.goto (-18), 3) := by decide +kernel
theorem dX4_back_90 : decode cX4_back 90 = .ok (.iload_n 3, 1) := by decide +kernel
theorem dX4_back_91 : decode cX4_back 91 = .ok (.iload 6, 2) := by decide +kernel
theorem dX4_back_93 : decode cX4_back 93 = .ok (.idiv, 1) := by decide +kernel
theorem dX4_back_94 : decode cX4_back 94 = .ok (.iload 5, 2) := by decide +kernel
theorem dX4_back_96 : decode cX4_back 96 = .ok (.imul, 1) := by decide +kernel
theorem dX4_back_97 : decode cX4_back 97 = .ok (.istore_n 3, 1) := by decide +kernel
theorem dX4_back_98 : decode cX4_back 98 = .ok (.iinc 4 1, 3) := by decide +kernel
theorem dX4_back_101 : decode cX4_back 101 = .ok (.goto (-77), 3) := by decide +kernel
theorem dX4_back_104 : decode cX4_back 104 = .ok (.iload_n 3, 1) := by decide +kernel
theorem dX4_back_105 : decode cX4_back 105 = .ok (.ireturn, 1) := by decide +kernel
set_option maxRecDepth 20000 in
theorem ggX4_bring_X4_isPlace : GoodIn wsX4_bring wsX4_isPlace := goodIn_r _ [5, 6, 7, 4, 8] (by decide +kernel) (by decide +kernel)
set_option maxRecDepth 20000 in
theorem gX4_bring_X4_isPlace : GoodIn wsX4_bring (va_wsS RX4 77 yX4_isPlace wsX4_isPlace) := goodIn_app (goodIn_of _ (by decide +kernel)) ggX4_bring_X4_isPlace
set_option maxRecDepth 20000 in
theorem ggX4_bring_X4_no : GoodIn wsX4_bring wsX4_no := goodIn_r _ [12, 1, 22, 23, 24, 25, 26, 27, 28, 29, 30, 31, 32, 33, 34, 35] (by decide +kernel) (by decide +kernel)
set_option maxRecDepth 20000 in
theorem gX4_bring_X4_no : GoodIn wsX4_bring (wsV RX4 63 RX4 yX4_no wsX4_no) := goodIn_app (goodIn_of _ (by decide +kernel)) ggX4_bring_X4_no
set_option maxRecDepth 20000 in
theorem ggX4_bring_X4_placeOf : GoodIn wsX4_bring wsX4_placeOf := goodIn_r _ [16, 17, 22, 23, 24, 25, 26, 27, 28, 29, 30, 31, 32, 33, 34, 35] (by decide +kernel) (by decide +kernel)
set_option maxRecDepth 20000 in
theorem gX4_bring_X4_placeOf : GoodIn wsX4_bring (wsV RX4 81 RX4 yX4_placeOf wsX4_placeOf) := goodIn_app (goodIn_of _ (by decide +kernel)) ggX4_bring_X4_placeOf
set_option maxRecDepth 20000 in
theorem ggX4_bring_X4_to : GoodIn wsX4_bring wsX4_to := goodIn_r _ [20, 21] (by decide +kernel) (by decide +kernel)
set_option maxRecDepth 20000 in
theorem gX4_bring_X4_to : GoodIn wsX4_bring (va_wsS RX4 55 yX4_to wsX4_to) := goodIn_app (goodIn_of _ (by decide +kernel)) ggX4_bring_X4_to
theorem dX4_bring_0 : decode cX4_bring 0 = .ok (.aload_n 0, 1) := by decide +kernel
theorem dX4_bring_1 : decode cX4_bring 1 = .ok (.iconst 0, 1) := by decide +kernel
theorem dX4_bring_2 : decode cX4_bring 2 = .ok (.putfield 33, 3) := by decide +kernel
theorem dX4_bring_5 : decode cX4_bring 5 = .ok (.iload_n 1, 1) := by decide +kernel
theorem dX4_bring_6 : decode cX4_bring 6 = .ok (.invokestatic 77, 3) := by decide +kernel
theorem dX4_bring_9 : decode cX4_bring 9 = .ok (.ifCond .eq 10, 3) := by decide +kernel
theorem dX4_bring_12 : decode cX4_bring 12 = .ok (.iload_n 2, 1) := by decide +kernel
theorem dX4_bring_13 : decode cX4_bring 13 = .ok (.invokestatic 77, 3) := by decide +kernel
theorem dX4_bring_16 : decode cX4_bring 16 = .ok (.ifCond .ne 9, 3) := by decide +kernel
theorem dX4_bring_19 : decode cX4_bring 19 = .ok (.aload_n 0, 1) := by decide +kernel
theorem dX4_bring_20 : decode cX4_bring 20 = .ok (.iconst 1, 1) := by decide +kernel
theorem dX4_bring_21 : decode cX4_bring 21 = .ok (.invokevirtual 63, 3) := by decide +kernel
theorem dX4_bring_24 : decode cX4_bring 24 = .ok (.ireturn, 1) := by decide +kernel
theorem dX4_bring_25 : decode cX4_bring 25 = .ok (.iconst 1, 1) := by decide +kernel
theorem dX4_bring_26 : decode cX4_bring 26 = .ok (.aload_n 0, 1) := by decide +kernel
theorem dX4_bring_27 : decode cX4_bring 27 = .ok (.iload_n 1, 1) := by decide +kernel
theorem dX4_bring_28 : decode cX4_bring 28 = .ok (.invokevirtual 81, 3) := by decide +kernel
theorem dX4_bring_31 : decode cX4_bring 31 = .ok (.ishl, 1) := by decide +kernel
theorem dX4_bring_32 : decode cX4_bring 32 = .ok (.istore_n 3, 1) := by decide +kernel
theorem dX4_bring_33 : decode cX4_bring 33 = .ok (.iconst 0, 1) := by decide +kernel
theorem dX4_bring_34 : decode cX4_bring 34 = .ok (.istore 4, 2) := by decide +kernel
theorem dX4_bring_36 : decode cX4_bring 36 = .ok (.iload 4, 2) := by decide +kernel
theorem dX4_bring_38 : decode cX4_bring 38 = .ok (.bipush 16, 2) := by decide +kernel
theorem dX4_bring_40 : decode cX4_bring 40 = .ok (.if_icmp .gt 98, 3) := by decide +kernel
theorem dX4_bring_43 : decode cX4_bring 43 = .ok (.iload_n 3, 1) := by decide +kernel
theorem dX4_bring_44 : decode cX4_bring 44 = .ok (.iload_n 2, 1) := by decide +kernel
theorem dX4_bring_45 : decode cX4_bring 45 = .ok (.ishr, 1) := by decide +kernel
theorem dX4_bring_46 : decode cX4_bring 46 = .ok (.iconst 1, 1) := by decide +kernel
theorem dX4_bring_47 : decode cX4_bring 47 = .ok (.iand, 1) := by decide +kernel
theorem dX4_bring_48 : decode cX4_bring 48 = .ok (.iconst 1, 1) := by decide +kernel
theorem dX4_bring_49 : decode cX4_bring 49 = .ok (.if_icmp .ne 6, 3) := by decide +kernel
theorem dX4_bring_52 : decode cX4_bring 52 = .ok (.iload 4, 2) := by decide +kernel
theorem dX4_bring_54 : decode cX4_bring 54 = .ok (.ireturn, 1) := by decide +kernel
theorem dX4_bring_55 : decode cX4_bring 55 = .ok (.iload_n 3, 1) := by decide +kernel
theorem dX4_bring_56 : decode cX4_bring 56 = .ok (.istore 5, 2) := by decide +kernel
theorem dX4_bring_58 : decode cX4_bring 58 = .ok (.iconst 0, 1) := by decide +kernel
theorem dX4_bring_59 : decode cX4_bring 59 = .ok (.istore 6, 2) := by decide +kernel
theorem dX4_bring_61 : decode cX4_bring 61 = .ok (.iload 6, 2) := by decide +kernel
theorem dX4_bring_63 : decode cX4_bring 63 = .ok (.bipush 16, 2) := by decide +kernel
theorem dX4_bring_65 : decode cX4_bring 65 = .ok (.if_icmp .ge 64, 3) := by decide +kernel
theorem dX4_bring_68 : decode cX4_bring 68 = .ok (.iload_n 3, 1) := by decide +kernel
theorem dX4_bring_69 : decode cX4_bring 69 = .ok (.iload 6, 2) := by decide +kernel
theorem dX4_bring_71 : decode cX4_bring 71 = .ok (.ishr, 1) := by decide +kernel
theorem dX4_bring_72 : decode cX4_bring 72 = .ok (.iconst 1, 1) := by decide +kernel
theorem dX4_bring_73 : decode cX4_bring 73 = .ok (.iand, 1) := by decide +kernel
theorem dX4_bring_74 : decode cX4_bring 74 = .ok (.iconst 1, 1) := by decide +kernel
theorem dX4_bring_75 : decode cX4_bring 75 = .ok (.if_icmp .ne 48, 3) := by decide +kernel
theorem dX4_bring_78 : decode cX4_bring 78 = .ok (.iload 5, 2) := by decide +kernel
theorem dX4_bring_80 : decode cX4_bring 80 = .ok (.iconst 1, 1) := by decide +kernel
theorem dX4_bring_81 : decode cX4_bring 81 = .ok (.iconst 1, 1) := by decide +kernel
theorem dX4_bring_82 : decode cX4_bring 82 = .ok (.iconst 0, 1) := by decide +kernel
theorem dX4_bring_83 : decode cX4_bring 83 = .ok (.iload 6, 2) := by decide +kernel
theorem dX4_bring_85 : decode cX4_bring 85 = .ok (.invokestatic 55, 3) := by decide +kernel
theorem dX4_bring_88 : decode cX4_bring 88 = .ok (.ishl, 1) := by decide +kernel
theorem dX4_bring_89 : decode cX4_bring 89 = .ok (.iconst 1, 1) := by decide +kernel
theorem dX4_bring_90 : decode cX4_bring 90 = .ok (.iconst 2, 1) := by decide +kernel
theorem dX4_bring_91 : decode cX4_bring 91 = .ok (.iconst 0, 1) := by decide +kernel
theorem dX4_bring_92 : decode cX4_bring 92 = .ok (.iload 6, 2) := by decide +kernel
theorem dX4_bring_94 : decode cX4_bring 94 = .ok (.invokestatic 55, 3) := by decide +kernel
theorem dX4_bring_97 : decode cX4_bring 97 = .ok (.ishl, 1) := by decide +kernel
theorem dX4_bring_98 : decode cX4_bring 98 = .ok (.ior, 1) := by decide +kernel
theorem dX4_bring_99 : decode cX4_bring 99 = .ok (.iconst 1, 1) := by decide +kernel
theorem dX4_bring_100 : decode cX4_bring 100 = .ok (.iconst 4, 1) := by decide +kernel
theorem dX4_bring_101 : decode cX4_bring 101 = .ok (.iconst 0, 1) := by decide +kernel
theorem dX4_bring_102 : decode cX4_bring 102 = .ok (.iload 6, 2) := by decide +kernel
theorem dX4_bring_104 : decode cX4_bring 104 = .ok (.invokestatic 55, 3) := by decide +kernel
theorem dX4_bring_107 : decode cX4_bring 107 = .ok (.ishl, 1) := by decide +kernel
theorem dX4_bring_108 : decode cX4_bring 108 = .ok (.ior, 1) := by decide +kernel
theorem dX4_bring_109 : decode cX4_bring 109 = .ok (.iconst 1, 1) := by decide +kernel
theorem dX4_bring_110 : decode cX4_bring 110 = .ok (.iconst 3, 1) := by decide +kernel
theorem dX4_bring_111 : decode cX4_bring 111 = .ok (.bipush 8, 2) := by decide +kernel
theorem dX4_bring_113 : decode cX4_bring 113 = .ok (.iload 6, 2) := by decide +kernel
theorem dX4_bring_115 : decode cX4_bring 115 = .ok (.invokestatic 55, 3) := by decide +kernel
theorem dX4_bring_118 : decode cX4_bring 118 = .ok (.ishl, 1) := by decide +kernel
theorem dX4_bring_119 : decode cX4_bring 119 = .ok (.ior, 1) := by decide +kernel
theorem dX4_bring_120 : decode cX4_bring 120 = .ok (.ior, 1) := by decide +kernel
theorem dX4_bring_121 : decode cX4_bring 121 = .ok (.istore 5, 2) := by decide +kernel
theorem dX4_bring_123 : decode cX4_bring 123 = .ok (.iinc 6 1, 3) := by decide +kernel
theorem dX4_bring_126 : decode cX4_bring 126 = .ok (.goto (-65), 3) := by decide +kernel
theorem dX4_bring_129 : decode cX4_bring 129 = .ok (.iload 5, 2) := by decide +kernel
theorem dX4_bring_131 : decode cX4_bring 131 = .ok (.istore_n 3, 1) := by decide +kernel
theorem dX4_bring_132 : decode cX4_bring 132 = .ok (.iinc 4 1, 3) := by decide +kernel
theorem dX4_bring_135 : decode cX4_bring 135 = .ok (.goto (-99), 3) := by decide +kernel
theorem dX4_bring_138 : decode cX4_bring 138 = .ok (.iconst (-1), 1) := by decide +kernel
theorem dX4_bring_139 : decode cX4_bring 139 = .ok (.ireturn, 1) := by decide +kernel
set_option maxRecDepth 20000 in
theorem ggX4_riffles_X4_isPlace : GoodIn wsX4_riffles wsX4_isPlace := goodIn_r _ [12, 13, 14, 11, 15] (by decide +kernel) (by decide +kernel)
set_option maxRecDepth 20000 in
theorem gX4_riffles_X4_isPlace : GoodIn wsX4_riffles (va_wsS RX4 77 yX4_isPlace wsX4_isPlace) := goodIn_app (goodIn_of _ (by decide +kernel)) ggX4_riffles_X4_isPlace
set_option maxRecDepth 20000 in
theorem ggX4_riffles_X4_no : GoodIn wsX4_riffles wsX4_no := goodIn_r _ [19, 1, 29, 30, 31, 32, 33, 34, 35, 36, 37, 38, 39, 40, 41, 42] (by decide +kernel) (by decide +kernel)
set_option maxRecDepth 20000 in
theorem gX4_riffles_X4_no : GoodIn wsX4_riffles (wsV RX4 63 RX4 yX4_no wsX4_no) := goodIn_app (goodIn_of _ (by decide +kernel)) ggX4_riffles_X4_no
set_option maxRecDepth 20000 in
theorem ggX4_riffles_X4_placeOf : GoodIn wsX4_riffles wsX4_placeOf := goodIn_r _ [23, 24, 29, 30, 31, 32, 33, 34, 35, 36, 37, 38, 39, 40, 41, 42] (by decide +kernel) (by decide +kernel)
set_option maxRecDepth 20000 in
theorem gX4_riffles_X4_placeOf : GoodIn wsX4_riffles (wsV RX4 81 RX4 yX4_placeOf wsX4_placeOf) := goodIn_app (goodIn_of _ (by decide +kernel)) ggX4_riffles_X4_placeOf
set_option maxRecDepth 20000 in
theorem ggX4_riffles_X4_to : GoodIn wsX4_riffles wsX4_to := goodIn_r _ [27, 28] (by decide +kernel) (by decide +kernel)
set_option maxRecDepth 20000 in
theorem gX4_riffles_X4_to : GoodIn wsX4_riffles (va_wsS RX4 55 yX4_to wsX4_to) := goodIn_app (goodIn_of _ (by decide +kernel)) ggX4_riffles_X4_to
theorem dX4_riffles_0 : decode cX4_riffles 0 = .ok (.aload_n 0, 1) := by decide +kernel
theorem dX4_riffles_1 : decode cX4_riffles 1 = .ok (.iconst 0, 1) := by decide +kernel
theorem dX4_riffles_2 : decode cX4_riffles 2 = .ok (.putfield 33, 3) := by decide +kernel
theorem dX4_riffles_5 : decode cX4_riffles 5 = .ok (.iload_n 1, 1) := by decide +kernel
theorem dX4_riffles_6 : decode cX4_riffles 6 = .ok (.invokestatic 77, 3) := by decide +kernel
theorem dX4_riffles_9 : decode cX4_riffles 9 = .ok (.ifCond .eq 10, 3) := by decide +kernel
theorem dX4_riffles_12 : decode cX4_riffles 12 = .ok (.iload_n 2, 1) := by decide +kernel
theorem dX4_riffles_13 : decode cX4_riffles 13 = .ok (.invokestatic 77, 3) := by decide +kernel
theorem dX4_riffles_16 : decode cX4_riffles 16 = .ok (.ifCond .ne 9, 3) := by decide +kernel
theorem dX4_riffles_19 : decode cX4_riffles 19 = .ok (.aload_n 0, 1) := by decide +kernel
theorem dX4_riffles_20 : decode cX4_riffles 20 = .ok (.iconst 1, 1) := by decide +kernel
theorem dX4_riffles_21 : decode cX4_riffles 21 = .ok (.invokevirtual 63, 3) := by decide +kernel
theorem dX4_riffles_24 : decode cX4_riffles 24 = .ok (.ireturn, 1) := by decide +kernel
theorem dX4_riffles_25 : decode cX4_riffles 25 = .ok (.bipush 16, 2) := by decide +kernel
theorem dX4_riffles_27 : decode cX4_riffles 27 = .ok (.newarray .int, 2) := by decide +kernel
theorem dX4_riffles_29 : decode cX4_riffles 29 = .ok (.astore_n 3, 1) := by decide +kernel
theorem dX4_riffles_30 : decode cX4_riffles 30 = .ok (.aload_n 3, 1) := by decide +kernel
theorem dX4_riffles_31 : decode cX4_riffles 31 = .ok (.aload_n 0, 1) := by decide +kernel
theorem dX4_riffles_32 : decode cX4_riffles 32 = .ok (.iload_n 1, 1) := by decide +kernel
theorem dX4_riffles_33 : decode cX4_riffles 33 = .ok (.invokevirtual 81, 3) := by decide +kernel
theorem dX4_riffles_36 : decode cX4_riffles 36 = .ok (.iconst 1, 1) := by decide +kernel
theorem dX4_riffles_37 : decode cX4_riffles 37 = .ok (.iastore, 1) := by decide +kernel
theorem dX4_riffles_38 : decode cX4_riffles 38 = .ok (.iconst 0, 1) := by decide +kernel
theorem dX4_riffles_39 : decode cX4_riffles 39 = .ok (.istore 4, 2) := by decide +kernel
theorem dX4_riffles_41 : decode cX4_riffles 41 = .ok (.iload 4, 2) := by decide +kernel
theorem dX4_riffles_43 : decode cX4_riffles 43 = .ok (.bipush 16, 2) := by decide +kernel
theorem dX4_riffles_45 : decode cX4_riffles 45 = .ok (.if_icmp .ge 121, 3) := by decide +kernel
theorem dX4_riffles_48 : decode cX4_riffles 48 = .ok (.aload_n 3, 1) := by decide +kernel
theorem dX4_riffles_49 : decode cX4_riffles 49 = .ok (.iload_n 2, 1) := by decide +kernel
theorem dX4_riffles_50 : decode cX4_riffles 50 = .ok (.iaload, 1) := by decide +kernel
theorem dX4_riffles_51 : decode cX4_riffles 51 = .ok (.ifCond .ne 115, 3) := by decide +kernel
theorem dX4_riffles_54 : decode cX4_riffles 54 = .ok (.aload_n 3, 1) := by decide +kernel
theorem dX4_riffles_55 : decode cX4_riffles 55 = .ok (.invokevirtual 50, 3) := by decide +kernel
theorem dX4_riffles_58 : decode cX4_riffles 58 = .ok (.checkcast 51, 3) := by decide +kernel
theorem dX4_riffles_61 : decode cX4_riffles 61 = .ok (.astore 5, 2) := by decide +kernel
theorem dX4_riffles_63 : decode cX4_riffles 63 = .ok (.iconst 0, 1) := by decide +kernel
theorem dX4_riffles_64 : decode cX4_riffles 64 = .ok (.istore 6, 2) := by decide +kernel
theorem dX4_riffles_66 : decode cX4_riffles 66 = .ok (.iload 6, 2) := by decide +kernel
theorem dX4_riffles_68 : decode cX4_riffles 68 = .ok (.bipush 16, 2) := by decide +kernel
theorem dX4_riffles_70 : decode cX4_riffles 70 = .ok (.if_icmp .ge 90, 3) := by decide +kernel
theorem dX4_riffles_73 : decode cX4_riffles 73 = .ok (.iconst 0, 1) := by decide +kernel
theorem dX4_riffles_74 : decode cX4_riffles 74 = .ok (.istore 7, 2) := by decide +kernel
theorem dX4_riffles_76 : decode cX4_riffles 76 = .ok (.iload 7, 2) := by decide +kernel
theorem dX4_riffles_78 : decode cX4_riffles 78 = .ok (.iconst 2, 1) := by decide +kernel
theorem dX4_riffles_79 : decode cX4_riffles 79 = .ok (.if_icmp .ge 75, 3) := by decide +kernel
theorem dX4_riffles_82 : decode cX4_riffles 82 = .ok (.aload 5, 2) := by decide +kernel
theorem dX4_riffles_84 : decode cX4_riffles 84 = .ok (.iload 6, 2) := by decide +kernel
theorem dX4_riffles_86 : decode cX4_riffles 86 = .ok (.iaload, 1) := by decide +kernel
theorem dX4_riffles_87 : decode cX4_riffles 87 = .ok (.iload 4, 2) := by decide +kernel
theorem dX4_riffles_89 : decode cX4_riffles 89 = .ok (.ishr, 1) := by decide +kernel
theorem dX4_riffles_90 : decode cX4_riffles 90 = .ok (.iconst 1, 1) := by decide +kernel
theorem dX4_riffles_91 : decode cX4_riffles 91 = .ok (.if_icmp .ne 63, 3) := by decide +kernel
theorem dX4_riffles_94 : decode cX4_riffles 94 = .ok (.iconst 1, 1) := by decide +kernel
theorem dX4_riffles_95 : decode cX4_riffles 95 = .ok (.iload 7, 2) := by decide +kernel
theorem dX4_riffles_97 : decode cX4_riffles 97 = .ok (.iadd, 1) := by decide +kernel
theorem dX4_riffles_98 : decode cX4_riffles 98 = .ok (.iconst 0, 1) := by decide +kernel
theorem dX4_riffles_99 : decode cX4_riffles 99 = .ok (.iload 6, 2) := by decide +kernel
theorem dX4_riffles_101 : decode cX4_riffles 101 = .ok (.invokestatic 55, 3) := by decide +kernel
theorem dX4_riffles_104 : decode cX4_riffles 104 = .ok (.istore 8, 2) := by decide +kernel
theorem dX4_riffles_106 : decode cX4_riffles 106 = .ok (.iconst 2, 1) := by decide +kernel
theorem dX4_riffles_107 : decode cX4_riffles 107 = .ok (.aload 5, 2) := by decide +kernel
theorem dX4_riffles_109 : decode cX4_riffles 109 = .ok (.iload 6, 2) := by decide +kernel
theorem dX4_riffles_111 : decode cX4_riffles 111 = .ok (.iaload, 1) := by decide +kernel
theorem dX4_riffles_112 : decode cX4_riffles 112 = .ok (.imul, 1) := by decide +kernel
theorem dX4_riffles_113 : decode cX4_riffles 113 = .ok (.iload 7, 2) := by decide +kernel
theorem dX4_riffles_115 : decode cX4_riffles 115 = .ok (.iadd, 1) := by decide +kernel
theorem dX4_riffles_116 : decode cX4_riffles 116 = .ok (.istore 9, 2) := by decide +kernel
theorem dX4_riffles_118 : decode cX4_riffles 118 = .ok (.aload 5, 2) := by decide +kernel
theorem dX4_riffles_120 : decode cX4_riffles 120 = .ok (.iload 8, 2) := by decide +kernel
theorem dX4_riffles_122 : decode cX4_riffles 122 = .ok (.iaload, 1) := by decide +kernel
theorem dX4_riffles_123 : decode cX4_riffles 123 = .ok (.ifCond .ne 25, 3) := by decide +kernel
theorem dX4_riffles_126 : decode cX4_riffles 126 = .ok (.aload_n 3, 1) := by decide +kernel
theorem dX4_riffles_127 : decode cX4_riffles 127 = .ok (.iload 8, 2) := by decide +kernel
theorem dX4_riffles_129 : decode cX4_riffles 129 = .ok (.iaload, 1) := by decide +kernel
theorem dX4_riffles_130 : decode cX4_riffles 130 = .ok (.ifCond .eq 12, 3) := by decide +kernel
theorem dX4_riffles_133 : decode cX4_riffles 133 = .ok (.iload 9, 2) := by decide +kernel
theorem dX4_riffles_135 : decode cX4_riffles 135 = .ok (.aload_n 3, 1) := by decide +kernel
theorem dX4_riffles_136 : decode cX4_riffles 136 = .ok (.iload 8, 2) := by decide +kernel
theorem dX4_riffles_138 : decode cX4_riffles 138 = .ok (.iaload, 1) := by decide +kernel
theorem dX4_riffles_139 : decode cX4_riffles 139 = .ok (.if_icmp .ge 9, 3) := by decide +kernel
theorem dX4_riffles_142 : decode cX4_riffles 142 = .ok (.aload_n 3, 1) := by decide +kernel
theorem dX4_riffles_143 : decode cX4_riffles 143 = .ok (.iload 8, 2) := by decide +kernel
theorem dX4_riffles_145 : decode cX4_riffles 145 = .ok (.iload 9, 2) := by decide +kernel
theorem dX4_riffles_147 : decode cX4_riffles 147 = .ok (.iastore, 1) := by decide +kernel
theorem dX4_riffles_148 : decode cX4_riffles 148 = .ok (.iinc 7 1, 3) := by decide +kernel
theorem dX4_riffles_151 : decode cX4_riffles 151 = .ok (.goto (-75), 3) := by decide +kernel
theorem dX4_riffles_154 : decode cX4_riffles 154 = .ok (.iinc 6 1, 3) := by decide +kernel
theorem dX4_riffles_157 : decode cX4_riffles 157 = .ok (.goto (-91), 3) := by decide +kernel
theorem dX4_riffles_160 : decode cX4_riffles 160 = .ok (.iinc 4 1, 3) := by decide +kernel
theorem dX4_riffles_163 : decode cX4_riffles 163 = .ok (.goto (-122), 3) := by decide +kernel
theorem dX4_riffles_166 : decode cX4_riffles 166 = .ok (.aload_n 3, 1) := by decide +kernel
theorem dX4_riffles_167 : decode cX4_riffles 167 = .ok (.iload_n 2, 1) := by decide +kernel
theorem dX4_riffles_168 : decode cX4_riffles 168 = .ok (.iaload, 1) := by decide +kernel
theorem dX4_riffles_169 : decode cX4_riffles 169 = .ok (.ifCond .ne 7, 3) := by decide +kernel
theorem dX4_riffles_172 : decode cX4_riffles 172 = .ok (.iconst (-1), 1) := by decide +kernel
theorem dX4_riffles_173 : decode cX4_riffles 173 = .ok (.goto 6, 3) := by decide +kernel
theorem dX4_riffles_176 : decode cX4_riffles 176 = .ok (.aload_n 3, 1) := by decide +kernel
theorem dX4_riffles_177 : decode cX4_riffles 177 = .ok (.iload_n 2, 1) := by decide +kernel
theorem dX4_riffles_178 : decode cX4_riffles 178 = .ok (.iaload, 1) := by decide +kernel
theorem dX4_riffles_179 : decode cX4_riffles 179 = .ok (.ireturn, 1) := by decide +kernel
set_option maxRecDepth 20000 in
theorem ggX4_mean_J6_bitCount_0f7a4 : GoodIn wsX4_mean wsJ6_bitCount_0f7a4 := goodIn_r _ [7, 8, 9, 10] (by decide +kernel) (by decide +kernel)
set_option maxRecDepth 20000 in
theorem gX4_mean_J6_bitCount_0f7a4 : GoodIn wsX4_mean (va_wsS RX4 85 yJ6_bitCount_0f7a4 wsJ6_bitCount_0f7a4) := goodIn_app (goodIn_of _ (by decide +kernel)) ggX4_mean_J6_bitCount_0f7a4
theorem dX4_mean_0 : decode cX4_mean 0 = .ok (.aload_n 0, 1) := by decide +kernel
theorem dX4_mean_1 : decode cX4_mean 1 = .ok (.iconst 0, 1) := by decide +kernel
theorem dX4_mean_2 : decode cX4_mean 2 = .ok (.putfield 33, 3) := by decide +kernel
theorem dX4_mean_5 : decode cX4_mean 5 = .ok (.iconst 0, 1) := by decide +kernel
theorem dX4_mean_6 : decode cX4_mean 6 = .ok (.istore_n 1, 1) := by decide +kernel
theorem dX4_mean_7 : decode cX4_mean 7 = .ok (.iconst 0, 1) := by decide +kernel
theorem dX4_mean_8 : decode cX4_mean 8 = .ok (.istore_n 2, 1) := by decide +kernel
theorem dX4_mean_9 : decode cX4_mean 9 = .ok (.iload_n 2, 1) := by decide +kernel
theorem dX4_mean_10 : decode cX4_mean 10 = .ok (.aload_n 0, 1) := by decide +kernel
theorem dX4_mean_11 : decode cX4_mean 11 = .ok (.getfield 41, 3) := by decide +kernel
theorem dX4_mean_14 : decode cX4_mean 14 = .ok (.if_icmp .ge 37, 3) := by decide +kernel
theorem dX4_mean_17 : decode cX4_mean 17 = .ok (.iconst 0, 1) := by decide +kernel
theorem dX4_mean_18 : decode cX4_mean 18 = .ok (.istore_n 3, 1) := by decide +kernel
theorem dX4_mean_19 : decode cX4_mean 19 = .ok (.iload_n 3, 1) := by decide +kernel
theorem dX4_mean_20 : decode cX4_mean 20 = .ok (.bipush 16, 2) := by decide +kernel
theorem dX4_mean_22 : decode cX4_mean 22 = .ok (.if_icmp .ge 23, 3) := by decide +kernel
theorem dX4_mean_25 : decode cX4_mean 25 = .ok (.iload_n 1, 1) := by decide +kernel
theorem dX4_mean_26 : decode cX4_mean 26 = .ok (.aload_n 0, 1) := by decide +kernel
theorem dX4_mean_27 : decode cX4_mean 27 = .ok (.getfield 18, 3) := by decide +kernel
theorem dX4_mean_30 : decode cX4_mean 30 = .ok (.iload_n 2, 1) := by decide +kernel
theorem dX4_mean_31 : decode cX4_mean 31 = .ok (.aaload, 1) := by decide +kernel
theorem dX4_mean_32 : decode cX4_mean 32 = .ok (.iload_n 3, 1) := by decide +kernel
theorem dX4_mean_33 : decode cX4_mean 33 = .ok (.iaload, 1) := by decide +kernel
theorem dX4_mean_34 : decode cX4_mean 34 = .ok (.invokestatic 85, 3) := by decide +kernel
theorem dX4_mean_37 : decode cX4_mean 37 = .ok (.iadd, 1) := by decide +kernel
theorem dX4_mean_38 : decode cX4_mean 38 = .ok (.istore_n 1, 1) := by decide +kernel
theorem dX4_mean_39 : decode cX4_mean 39 = .ok (.iinc 3 1, 3) := by decide +kernel
theorem dX4_mean_42 : decode cX4_mean 42 = .ok (.goto (-23), 3) := by decide +kernel
theorem dX4_mean_45 : decode cX4_mean 45 = .ok (.iinc 2 1, 3) := by decide +kernel
theorem dX4_mean_48 : decode cX4_mean 48 = .ok (.goto (-39), 3) := by decide +kernel
theorem dX4_mean_51 : decode cX4_mean 51 = .ok (.aload_n 0, 1) := by decide +kernel
theorem dX4_mean_52 : decode cX4_mean 52 = .ok (.getfield 41, 3) := by decide +kernel
theorem dX4_mean_55 : decode cX4_mean 55 = .ok (.ifCond .ne 7, 3) := by decide +kernel
theorem dX4_mean_58 : decode cX4_mean 58 = .ok (.dconst 0, 1) := by decide +kernel
theorem dX4_mean_59 : decode cX4_mean 59 = .ok (.goto 14, 3) := by decide +kernel
theorem dX4_mean_62 : decode cX4_mean 62 = .ok (.iload_n 1, 1) := by decide +kernel
theorem dX4_mean_63 : decode cX4_mean 63 = .ok (.i2d, 1) := by decide +kernel
theorem dX4_mean_64 : decode cX4_mean 64 = .ok (.bipush 16, 2) := by decide +kernel
theorem dX4_mean_66 : decode cX4_mean 66 = .ok (.aload_n 0, 1) := by decide +kernel
theorem dX4_mean_67 : decode cX4_mean 67 = .ok (.getfield 41, 3) := by decide +kernel
theorem dX4_mean_70 : decode cX4_mean 70 = .ok (.imul, 1) := by decide +kernel
theorem dX4_mean_71 : decode cX4_mean 71 = .ok (.i2d, 1) := by decide +kernel
theorem dX4_mean_72 : decode cX4_mean 72 = .ok (.ddiv, 1) := by decide +kernel
theorem dX4_mean_73 : decode cX4_mean 73 = .ok (.dreturn, 1) := by decide +kernel
set_option maxRecDepth 20000 in
theorem ggX4_digest_X4_counted : GoodIn wsX4_digest wsX4_counted := goodIn_r _ [14, 4, 15, 16, 17, 5, 7, 18, 19, 37, 38, 39, 40, 41, 42, 43, 44, 45, 46, 47, 48, 49, 50] (by decide +kernel) (by decide +kernel)
set_option maxRecDepth 20000 in
theorem gX4_digest_X4_counted : GoodIn wsX4_digest (wsV RX4 118 RX4 yX4_counted wsX4_counted) := goodIn_app (goodIn_of _ (by decide +kernel)) ggX4_digest_X4_counted
set_option maxRecDepth 20000 in
theorem ggX4_digest_X4_watcherTold : GoodIn wsX4_digest wsX4_watcherTold := goodIn_r _ [23, 6, 4, 15, 24, 25, 26, 27, 28, 13, 29, 30, 31, 32, 33, 34, 35, 36, 37, 38, 39, 40, 41, 42, 43, 44, 45, 46, 47, 48, 49, 50] (by decide +kernel) (by decide +kernel)
set_option maxRecDepth 20000 in
theorem gX4_digest_X4_watcherTold : GoodIn wsX4_digest (wsV RX4 100 RX4 yX4_watcherTold wsX4_watcherTold) := goodIn_app (goodIn_of _ (by decide +kernel)) ggX4_digest_X4_watcherTold
theorem dX4_digest_0 : decode cX4_digest 0 = .ok (.aload_n 0, 1) := by decide +kernel
theorem dX4_digest_1 : decode cX4_digest 1 = .ok (.iconst 0, 1) := by decide +kernel
theorem dX4_digest_2 : decode cX4_digest 2 = .ok (.putfield 33, 3) := by decide +kernel
theorem dX4_digest_5 : decode cX4_digest 5 = .ok (.ldc2_w 121, 3) := by decide +kernel
theorem dX4_digest_8 : decode cX4_digest 8 = .ok (.lstore_n 1, 1) := by decide +kernel
theorem dX4_digest_9 : decode cX4_digest 9 = .ok (.iconst 0, 1) := by decide +kernel
theorem dX4_digest_10 : decode cX4_digest 10 = .ok (.istore_n 3, 1) := by decide +kernel
theorem dX4_digest_11 : decode cX4_digest 11 = .ok (.iload_n 3, 1) := by decide +kernel
theorem dX4_digest_12 : decode cX4_digest 12 = .ok (.bipush 7, 2) := by decide +kernel
theorem dX4_digest_14 : decode cX4_digest 14 = .ok (.if_icmp .ge 22, 3) := by decide +kernel
theorem dX4_digest_17 : decode cX4_digest 17 = .ok (.lload_n 1, 1) := by decide +kernel
theorem dX4_digest_18 : decode cX4_digest 18 = .ok (.ldc2_w 123, 3) := by decide +kernel
theorem dX4_digest_21 : decode cX4_digest 21 = .ok (.lmul, 1) := by decide +kernel
theorem dX4_digest_22 : decode cX4_digest 22 = .ok (.aload_n 0, 1) := by decide +kernel
theorem dX4_digest_23 : decode cX4_digest 23 = .ok (.iload_n 3, 1) := by decide +kernel
theorem dX4_digest_24 : decode cX4_digest 24 = .ok (.invokevirtual 118, 3) := by decide +kernel
theorem dX4_digest_27 : decode cX4_digest 27 = .ok (.i2l, 1) := by decide +kernel
theorem dX4_digest_28 : decode cX4_digest 28 = .ok (.ladd, 1) := by decide +kernel
theorem dX4_digest_29 : decode cX4_digest 29 = .ok (.lstore_n 1, 1) := by decide +kernel
theorem dX4_digest_30 : decode cX4_digest 30 = .ok (.iinc 3 1, 3) := by decide +kernel
theorem dX4_digest_33 : decode cX4_digest 33 = .ok (.goto (-22), 3) := by decide +kernel
theorem dX4_digest_36 : decode cX4_digest 36 = .ok (.iconst 0, 1) := by decide +kernel
theorem dX4_digest_37 : decode cX4_digest 37 = .ok (.istore_n 3, 1) := by decide +kernel
theorem dX4_digest_38 : decode cX4_digest 38 = .ok (.iload_n 3, 1) := by decide +kernel
theorem dX4_digest_39 : decode cX4_digest 39 = .ok (.bipush 16, 2) := by decide +kernel
theorem dX4_digest_41 : decode cX4_digest 41 = .ok (.if_icmp .ge 23, 3) := by decide +kernel
theorem dX4_digest_44 : decode cX4_digest 44 = .ok (.lload_n 1, 1) := by decide +kernel
theorem dX4_digest_45 : decode cX4_digest 45 = .ok (.ldc2_w 123, 3) := by decide +kernel
theorem dX4_digest_48 : decode cX4_digest 48 = .ok (.lmul, 1) := by decide +kernel
theorem dX4_digest_49 : decode cX4_digest 49 = .ok (.aload_n 0, 1) := by decide +kernel
theorem dX4_digest_50 : decode cX4_digest 50 = .ok (.getfield 9, 3) := by decide +kernel
theorem dX4_digest_53 : decode cX4_digest 53 = .ok (.iload_n 3, 1) := by decide +kernel
theorem dX4_digest_54 : decode cX4_digest 54 = .ok (.iaload, 1) := by decide +kernel
theorem dX4_digest_55 : decode cX4_digest 55 = .ok (.i2l, 1) := by decide +kernel
theorem dX4_digest_56 : decode cX4_digest 56 = .ok (.ladd, 1) := by decide +kernel
theorem dX4_digest_57 : decode cX4_digest 57 = .ok (.lstore_n 1, 1) := by decide +kernel
theorem dX4_digest_58 : decode cX4_digest 58 = .ok (.iinc 3 1, 3) := by decide +kernel
theorem dX4_digest_61 : decode cX4_digest 61 = .ok (.goto (-23), 3) := by decide +kernel
theorem dX4_digest_64 : decode cX4_digest 64 = .ok (.iconst 0, 1) := by decide +kernel
theorem dX4_digest_65 : decode cX4_digest 65 = .ok (.istore_n 3, 1) := by decide +kernel
theorem dX4_digest_66 : decode cX4_digest 66 = .ok (.iload_n 3, 1) := by decide +kernel
theorem dX4_digest_67 : decode cX4_digest 67 = .ok (.aload_n 0, 1) := by decide +kernel
theorem dX4_digest_68 : decode cX4_digest 68 = .ok (.getfield 41, 3) := by decide +kernel
theorem dX4_digest_71 : decode cX4_digest 71 = .ok (.if_icmp .ge 73, 3) := by decide +kernel
theorem dX4_digest_74 : decode cX4_digest 74 = .ok (.iconst 0, 1) := by decide +kernel
theorem dX4_digest_75 : decode cX4_digest 75 = .ok (.istore 4, 2) := by decide +kernel
theorem dX4_digest_77 : decode cX4_digest 77 = .ok (.iload 4, 2) := by decide +kernel
theorem dX4_digest_79 : decode cX4_digest 79 = .ok (.bipush 6, 2) := by decide +kernel
theorem dX4_digest_81 : decode cX4_digest 81 = .ok (.if_icmp .ge 24, 3) := by decide +kernel
theorem dX4_digest_84 : decode cX4_digest 84 = .ok (.lload_n 1, 1) := by decide +kernel
theorem dX4_digest_85 : decode cX4_digest 85 = .ok (.ldc2_w 123, 3) := by decide +kernel
theorem dX4_digest_88 : decode cX4_digest 88 = .ok (.lmul, 1) := by decide +kernel
theorem dX4_digest_89 : decode cX4_digest 89 = .ok (.aload_n 0, 1) := by decide +kernel
theorem dX4_digest_90 : decode cX4_digest 90 = .ok (.iload_n 3, 1) := by decide +kernel
theorem dX4_digest_91 : decode cX4_digest 91 = .ok (.iload 4, 2) := by decide +kernel
theorem dX4_digest_93 : decode cX4_digest 93 = .ok (.invokevirtual 100, 3) := by decide +kernel
theorem dX4_digest_96 : decode cX4_digest 96 = .ok (.i2l, 1) := by decide +kernel
theorem dX4_digest_97 : decode cX4_digest 97 = .ok (.ladd, 1) := by decide +kernel
theorem dX4_digest_98 : decode cX4_digest 98 = .ok (.lstore_n 1, 1) := by decide +kernel
theorem dX4_digest_99 : decode cX4_digest 99 = .ok (.iinc 4 1, 3) := by decide +kernel
theorem dX4_digest_102 : decode cX4_digest 102 = .ok (.goto (-25), 3) := by decide +kernel
theorem dX4_digest_105 : decode cX4_digest 105 = .ok (.iconst 0, 1) := by decide +kernel
theorem dX4_digest_106 : decode cX4_digest 106 = .ok (.istore 4, 2) := by decide +kernel
theorem dX4_digest_108 : decode cX4_digest 108 = .ok (.iload 4, 2) := by decide +kernel
theorem dX4_digest_110 : decode cX4_digest 110 = .ok (.bipush 16, 2) := by decide +kernel
theorem dX4_digest_112 : decode cX4_digest 112 = .ok (.if_icmp .ge 26, 3) := by decide +kernel
theorem dX4_digest_115 : decode cX4_digest 115 = .ok (.lload_n 1, 1) := by decide +kernel
theorem dX4_digest_116 : decode cX4_digest 116 = .ok (.ldc2_w 123, 3) := by decide +kernel
theorem dX4_digest_119 : decode cX4_digest 119 = .ok (.lmul, 1) := by decide +kernel
theorem dX4_digest_120 : decode cX4_digest 120 = .ok (.aload_n 0, 1) := by decide +kernel
theorem dX4_digest_121 : decode cX4_digest 121 = .ok (.getfield 18, 3) := by decide +kernel
theorem dX4_digest_124 : decode cX4_digest 124 = .ok (.iload_n 3, 1) := by decide +kernel
theorem dX4_digest_125 : decode cX4_digest 125 = .ok (.aaload, 1) := by decide +kernel
theorem dX4_digest_126 : decode cX4_digest 126 = .ok (.iload 4, 2) := by decide +kernel
theorem dX4_digest_128 : decode cX4_digest 128 = .ok (.iaload, 1) := by decide +kernel
theorem dX4_digest_129 : decode cX4_digest 129 = .ok (.i2l, 1) := by decide +kernel
theorem dX4_digest_130 : decode cX4_digest 130 = .ok (.ladd, 1) := by decide +kernel
theorem dX4_digest_131 : decode cX4_digest 131 = .ok (.lstore_n 1, 1) := by decide +kernel
theorem dX4_digest_132 : decode cX4_digest 132 = .ok (.iinc 4 1, 3) := by decide +kernel
theorem dX4_digest_135 : decode cX4_digest 135 = .ok (.goto (-27), 3) := by decide +kernel
theorem dX4_digest_138 : decode cX4_digest 138 = .ok (.iinc 3 1, 3) := by decide +kernel
theorem dX4_digest_141 : decode cX4_digest 141 = .ok (.goto (-75), 3) := by decide +kernel
theorem dX4_digest_144 : decode cX4_digest 144 = .ok (.iconst 0, 1) := by decide +kernel
theorem dX4_digest_145 : decode cX4_digest 145 = .ok (.istore_n 3, 1) := by decide +kernel
theorem dX4_digest_146 : decode cX4_digest 146 = .ok (.iload_n 3, 1) := by decide +kernel
theorem dX4_digest_147 : decode cX4_digest 147 = .ok (.aload_n 0, 1) := by decide +kernel
theorem dX4_digest_148 : decode cX4_digest 148 = .ok (.getfield 44, 3) := by decide +kernel
theorem dX4_digest_151 : decode cX4_digest 151 = .ok (.if_icmp .ge 35, 3) := by decide +kernel
theorem dX4_digest_154 : decode cX4_digest 154 = .ok (.lload_n 1, 1) := by decide +kernel
theorem dX4_digest_155 : decode cX4_digest 155 = .ok (.ldc2_w 123, 3) := by decide +kernel
theorem dX4_digest_158 : decode cX4_digest 158 = .ok (.lmul, 1) := by decide +kernel
theorem dX4_digest_159 : decode cX4_digest 159 = .ok (.aload_n 0, 1) := by decide +kernel
theorem dX4_digest_160 : decode cX4_digest 160 = .ok (.getfield 27, 3) := by decide +kernel
theorem dX4_digest_163 : decode cX4_digest 163 = .ok (.iload_n 3, 1) := by decide +kernel
theorem dX4_digest_164 : decode cX4_digest 164 = .ok (.iaload, 1) := by decide +kernel
theorem dX4_digest_165 : decode cX4_digest 165 = .ok (.i2l, 1) := by decide +kernel
theorem dX4_digest_166 : decode cX4_digest 166 = .ok (.ladd, 1) := by decide +kernel
theorem dX4_digest_167 : decode cX4_digest 167 = .ok (.ldc2_w 123, 3) := by decide +kernel
theorem dX4_digest_170 : decode cX4_digest 170 = .ok (.lmul, 1) := by decide +kernel
theorem dX4_digest_171 : decode cX4_digest 171 = .ok (.aload_n 0, 1) := by decide +kernel
theorem dX4_digest_172 : decode cX4_digest 172 = .ok (.getfield 30, 3) := by decide +kernel
theorem dX4_digest_175 : decode cX4_digest 175 = .ok (.iload_n 3, 1) := by decide +kernel
theorem dX4_digest_176 : decode cX4_digest 176 = .ok (.iaload, 1) := by decide +kernel
theorem dX4_digest_177 : decode cX4_digest 177 = .ok (.i2l, 1) := by decide +kernel
theorem dX4_digest_178 : decode cX4_digest 178 = .ok (.ladd, 1) := by decide +kernel
theorem dX4_digest_179 : decode cX4_digest 179 = .ok (.lstore_n 1, 1) := by decide +kernel
theorem dX4_digest_180 : decode cX4_digest 180 = .ok (.iinc 3 1, 3) := by decide +kernel
theorem dX4_digest_183 : decode cX4_digest 183 = .ok (.goto (-37), 3) := by decide +kernel
theorem dX4_digest_186 : decode cX4_digest 186 = .ok (.lload_n 1, 1) := by decide +kernel
theorem dX4_digest_187 : decode cX4_digest 187 = .ok (.lreturn, 1) := by decide +kernel
