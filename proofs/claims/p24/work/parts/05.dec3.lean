set_option maxRecDepth 20000 in
theorem ggX3_init_X1_init : GoodIn wsX3_init wsX1_init := goodIn_r _ [14, 15, 2, 3, 16, 17, 18, 23, 24] (by decide +kernel) (by decide +kernel)
set_option maxRecDepth 20000 in
theorem gX3_init_X1_init_n11 : GoodIn wsX3_init (wsX1_init) := ggX3_init_X1_init
set_option maxRecDepth 20000 in
theorem ggX3_init_X1_putInOrder : GoodIn wsX3_init wsX1_putInOrder := goodIn_r _ [22, 17, 23, 24] (by decide +kernel) (by decide +kernel)
set_option maxRecDepth 20000 in
theorem gX3_init_X1_putInOrder : GoodIn wsX3_init (wsV RX3 31 RX1 yX1_putInOrder wsX1_putInOrder) := goodIn_app (goodIn_of _ (by decide +kernel)) ggX3_init_X1_putInOrder
theorem dX3_init_0 : decode cX3_init 0 = .ok (.aload_n 0, 1) := by decide +kernel
theorem dX3_init_1 : decode cX3_init 1 = .ok (.invokespecial 3, 3) := by decide +kernel
theorem dX3_init_4 : decode cX3_init 4 = .ok (.aload_n 0, 1) := by decide +kernel
theorem dX3_init_5 : decode cX3_init 5 = .ok (.new 9, 3) := by decide +kernel
theorem dX3_init_8 : decode cX3_init 8 = .ok (.dup, 1) := by decide +kernel
theorem dX3_init_9 : decode cX3_init 9 = .ok (.invokespecial 11, 3) := by decide +kernel
theorem dX3_init_12 : decode cX3_init 12 = .ok (.putfield 12, 3) := by decide +kernel
theorem dX3_init_15 : decode cX3_init 15 = .ok (.aload_n 0, 1) := by decide +kernel
theorem dX3_init_16 : decode cX3_init 16 = .ok (.new 9, 3) := by decide +kernel
theorem dX3_init_19 : decode cX3_init 19 = .ok (.dup, 1) := by decide +kernel
theorem dX3_init_20 : decode cX3_init 20 = .ok (.invokespecial 11, 3) := by decide +kernel
theorem dX3_init_23 : decode cX3_init 23 = .ok (.putfield 16, 3) := by decide +kernel
theorem dX3_init_26 : decode cX3_init 26 = .ok (.aload_n 0, 1) := by decide +kernel
theorem dX3_init_27 : decode cX3_init 27 = .ok (.iconst 4, 1) := by decide +kernel
theorem dX3_init_28 : decode cX3_init 28 = .ok (.anewarray 19, 3) := by decide +kernel
theorem dX3_init_31 : decode cX3_init 31 = .ok (.putfield 21, 3) := by decide +kernel
theorem dX3_init_34 : decode cX3_init 34 = .ok (.aload_n 0, 1) := by decide +kernel
theorem dX3_init_35 : decode cX3_init 35 = .ok (.iconst 4, 1) := by decide +kernel
theorem dX3_init_36 : decode cX3_init 36 = .ok (.anewarray 25, 3) := by decide +kernel
theorem dX3_init_39 : decode cX3_init 39 = .ok (.putfield 27, 3) := by decide +kernel
theorem dX3_init_42 : decode cX3_init 42 = .ok (.aload_n 0, 1) := by decide +kernel
theorem dX3_init_43 : decode cX3_init 43 = .ok (.getfield 12, 3) := by decide +kernel
theorem dX3_init_46 : decode cX3_init 46 = .ok (.invokevirtual 31, 3) := by decide +kernel
theorem dX3_init_49 : decode cX3_init 49 = .ok (.return_, 1) := by decide +kernel
set_option maxRecDepth 20000 in
theorem ggX3_go_X3_requireWay : GoodIn wsX3_go wsX3_requireWay := goodIn_ca (goodIn_r _ [7, 8, 9, 10, 11, 6, 12] (by decide +kernel) (by decide +kernel)) (goodIn_sub (fun _ h => List.mem_cons_of_mem _ (List.mem_append_right _ h)) (by decide +kernel))
set_option maxRecDepth 20000 in
theorem gX3_go_X3_requireWay : GoodIn wsX3_go (va_wsS RX3 34 yX3_requireWay wsX3_requireWay) := goodIn_app (goodIn_of _ (by decide +kernel)) ggX3_go_X3_requireWay
set_option maxRecDepth 20000 in
theorem ggX3_go_X1_carry : GoodIn wsX3_go wsX1_carry := goodIn_r _ [17, 18, 19, 20, 6, 21, 22, 23, 24, 25, 26, 48, 49] (by decide +kernel) (by decide +kernel)
set_option maxRecDepth 20000 in
theorem gX3_go_X1_carry : GoodIn wsX3_go (wsV RX3 38 RX1 yX1_carry wsX1_carry) := goodIn_app (goodIn_of _ (by decide +kernel)) ggX3_go_X1_carry
set_option maxRecDepth 20000 in
theorem ggX3_go_X2_follow : GoodIn wsX3_go wsX2_follow := goodIn_r _ [31, 32, 33, 14, 15, 16, 17, 18, 19, 20, 6, 21, 22, 23, 24, 25, 26, 50, 51, 52, 53, 48, 49] (by decide +kernel) (by decide +kernel)
set_option maxRecDepth 20000 in
theorem gX3_go_X2_follow : GoodIn wsX3_go (wsV RX3 41 RX2 yX2_follow wsX2_follow) := goodIn_app (goodIn_of _ (by decide +kernel)) ggX3_go_X2_follow
set_option maxRecDepth 20000 in
theorem ggX3_go_X1_at : GoodIn wsX3_go wsX1_at := goodIn_r _ [37, 19, 25, 6, 26, 48, 49] (by decide +kernel) (by decide +kernel)
set_option maxRecDepth 20000 in
theorem gX3_go_X1_at : GoodIn wsX3_go (wsV RX3 48 RX1 yX1_at wsX1_at) := goodIn_app (goodIn_of _ (by decide +kernel)) ggX3_go_X1_at
theorem dX3_go_0 : decode cX3_go 0 = .ok (.iload_n 1, 1) := by decide +kernel
theorem dX3_go_1 : decode cX3_go 1 = .ok (.iload_n 2, 1) := by decide +kernel
theorem dX3_go_2 : decode cX3_go 2 = .ok (.invokestatic 34, 3) := by decide +kernel
theorem dX3_go_5 : decode cX3_go 5 = .ok (.aload_n 0, 1) := by decide +kernel
theorem dX3_go_6 : decode cX3_go 6 = .ok (.getfield 12, 3) := by decide +kernel
theorem dX3_go_9 : decode cX3_go 9 = .ok (.iload_n 1, 1) := by decide +kernel
theorem dX3_go_10 : decode cX3_go 10 = .ok (.iload_n 2, 1) := by decide +kernel
theorem dX3_go_11 : decode cX3_go 11 = .ok (.invokevirtual 38, 3) := by decide +kernel
theorem dX3_go_14 : decode cX3_go 14 = .ok (.iload_n 3, 1) := by decide +kernel
theorem dX3_go_15 : decode cX3_go 15 = .ok (.ifCond .eq 49, 3) := by decide +kernel
theorem dX3_go_18 : decode cX3_go 18 = .ok (.aload_n 0, 1) := by decide +kernel
theorem dX3_go_19 : decode cX3_go 19 = .ok (.getfield 21, 3) := by decide +kernel
theorem dX3_go_22 : decode cX3_go 22 = .ok (.astore 4, 2) := by decide +kernel
theorem dX3_go_24 : decode cX3_go 24 = .ok (.aload 4, 2) := by decide +kernel
theorem dX3_go_26 : decode cX3_go 26 = .ok (.arraylength, 1) := by decide +kernel
theorem dX3_go_27 : decode cX3_go 27 = .ok (.istore 5, 2) := by decide +kernel
theorem dX3_go_29 : decode cX3_go 29 = .ok (.iconst 0, 1) := by decide +kernel
theorem dX3_go_30 : decode cX3_go 30 = .ok (.istore 6, 2) := by decide +kernel
theorem dX3_go_32 : decode cX3_go 32 = .ok (.iload 6, 2) := by decide +kernel
theorem dX3_go_34 : decode cX3_go 34 = .ok (.iload 5, 2) := by decide +kernel
theorem dX3_go_36 : decode cX3_go 36 = .ok (.if_icmp .ge 28, 3) := by decide +kernel
theorem dX3_go_39 : decode cX3_go 39 = .ok (.aload 4, 2) := by decide +kernel
theorem dX3_go_41 : decode cX3_go 41 = .ok (.iload 6, 2) := by decide +kernel
theorem dX3_go_43 : decode cX3_go 43 = .ok (.aaload, 1) := by decide +kernel
theorem dX3_go_44 : decode cX3_go 44 = .ok (.astore 7, 2) := by decide +kernel
theorem dX3_go_46 : decode cX3_go 46 = .ok (.aload 7, 2) := by decide +kernel
theorem dX3_go_48 : decode cX3_go 48 = .ok (.ifnull 10, 3) := by decide +kernel
theorem dX3_go_51 : decode cX3_go 51 = .ok (.aload 7, 2) := by decide +kernel
theorem dX3_go_53 : decode cX3_go 53 = .ok (.iload_n 1, 1) := by decide +kernel
theorem dX3_go_54 : decode cX3_go 54 = .ok (.iload_n 2, 1) := by decide +kernel
theorem dX3_go_55 : decode cX3_go 55 = .ok (.invokevirtual 41, 3) := by decide +kernel
theorem dX3_go_58 : decode cX3_go 58 = .ok (.iinc 6 1, 3) := by decide +kernel
theorem dX3_go_61 : decode cX3_go 61 = .ok (.goto (-29), 3) := by decide +kernel
theorem dX3_go_64 : decode cX3_go 64 = .ok (.aload_n 0, 1) := by decide +kernel
theorem dX3_go_65 : decode cX3_go 65 = .ok (.dup, 1) := by decide +kernel
theorem dX3_go_66 : decode cX3_go 66 = .ok (.getfield 44, 3) := by decide +kernel
theorem dX3_go_69 : decode cX3_go 69 = .ok (.iconst 1, 1) := by decide +kernel
theorem dX3_go_70 : decode cX3_go 70 = .ok (.iadd, 1) := by decide +kernel
theorem dX3_go_71 : decode cX3_go 71 = .ok (.putfield 44, 3) := by decide +kernel
theorem dX3_go_74 : decode cX3_go 74 = .ok (.aload_n 0, 1) := by decide +kernel
theorem dX3_go_75 : decode cX3_go 75 = .ok (.getfield 12, 3) := by decide +kernel
theorem dX3_go_78 : decode cX3_go 78 = .ok (.iconst 0, 1) := by decide +kernel
theorem dX3_go_79 : decode cX3_go 79 = .ok (.invokevirtual 48, 3) := by decide +kernel
theorem dX3_go_82 : decode cX3_go 82 = .ok (.ireturn, 1) := by decide +kernel
set_option maxRecDepth 20000 in
theorem ggX3_falseCut_X3_requireWay : GoodIn wsX3_falseCut wsX3_requireWay := goodIn_ca (goodIn_r _ [6, 7, 8, 9, 10, 5, 11] (by decide +kernel) (by decide +kernel)) (goodIn_sub (fun _ h => List.mem_cons_of_mem _ (List.mem_append_right _ h)) (by decide +kernel))
set_option maxRecDepth 20000 in
theorem gX3_falseCut_X3_requireWay : GoodIn wsX3_falseCut (va_wsS RX3 34 yX3_requireWay wsX3_requireWay) := goodIn_app (goodIn_of _ (by decide +kernel)) ggX3_falseCut_X3_requireWay
set_option maxRecDepth 20000 in
theorem ggX3_falseCut_X2_follow : GoodIn wsX3_falseCut wsX2_follow := goodIn_r _ [16, 17, 18, 19, 20, 21, 22, 23, 24, 25, 5, 26, 27, 28, 29, 30, 31, 42, 43, 44, 45, 46, 47] (by decide +kernel) (by decide +kernel)
set_option maxRecDepth 20000 in
theorem gX3_falseCut_X2_follow : GoodIn wsX3_falseCut (wsV RX3 41 RX2 yX2_follow wsX2_follow) := goodIn_app (goodIn_of _ (by decide +kernel)) ggX3_falseCut_X2_follow
theorem dX3_falseCut_0 : decode cX3_falseCut 0 = .ok (.iconst 0, 1) := by decide +kernel
theorem dX3_falseCut_1 : decode cX3_falseCut 1 = .ok (.iload_n 1, 1) := by decide +kernel
theorem dX3_falseCut_2 : decode cX3_falseCut 2 = .ok (.invokestatic 34, 3) := by decide +kernel
theorem dX3_falseCut_5 : decode cX3_falseCut 5 = .ok (.iconst 0, 1) := by decide +kernel
theorem dX3_falseCut_6 : decode cX3_falseCut 6 = .ok (.istore_n 2, 1) := by decide +kernel
theorem dX3_falseCut_7 : decode cX3_falseCut 7 = .ok (.aload_n 0, 1) := by decide +kernel
theorem dX3_falseCut_8 : decode cX3_falseCut 8 = .ok (.getfield 21, 3) := by decide +kernel
theorem dX3_falseCut_11 : decode cX3_falseCut 11 = .ok (.astore_n 3, 1) := by decide +kernel
theorem dX3_falseCut_12 : decode cX3_falseCut 12 = .ok (.aload_n 3, 1) := by decide +kernel
theorem dX3_falseCut_13 : decode cX3_falseCut 13 = .ok (.arraylength, 1) := by decide +kernel
theorem dX3_falseCut_14 : decode cX3_falseCut 14 = .ok (.istore 4, 2) := by decide +kernel
theorem dX3_falseCut_16 : decode cX3_falseCut 16 = .ok (.iconst 0, 1) := by decide +kernel
theorem dX3_falseCut_17 : decode cX3_falseCut 17 = .ok (.istore 5, 2) := by decide +kernel
theorem dX3_falseCut_19 : decode cX3_falseCut 19 = .ok (.iload 5, 2) := by decide +kernel
theorem dX3_falseCut_21 : decode cX3_falseCut 21 = .ok (.iload 4, 2) := by decide +kernel
theorem dX3_falseCut_23 : decode cX3_falseCut 23 = .ok (.if_icmp .ge 38, 3) := by decide +kernel
theorem dX3_falseCut_26 : decode cX3_falseCut 26 = .ok (.aload_n 3, 1) := by decide +kernel
theorem dX3_falseCut_27 : decode cX3_falseCut 27 = .ok (.iload 5, 2) := by decide +kernel
theorem dX3_falseCut_29 : decode cX3_falseCut 29 = .ok (.aaload, 1) := by decide +kernel
theorem dX3_falseCut_30 : decode cX3_falseCut 30 = .ok (.astore 6, 2) := by decide +kernel
theorem dX3_falseCut_32 : decode cX3_falseCut 32 = .ok (.aload 6, 2) := by decide +kernel
theorem dX3_falseCut_34 : decode cX3_falseCut 34 = .ok (.ifnull 21, 3) := by decide +kernel
theorem dX3_falseCut_37 : decode cX3_falseCut 37 = .ok (.aload 6, 2) := by decide +kernel
theorem dX3_falseCut_39 : decode cX3_falseCut 39 = .ok (.getfield 52, 3) := by decide +kernel
theorem dX3_falseCut_42 : decode cX3_falseCut 42 = .ok (.ifCond .ne 13, 3) := by decide +kernel
theorem dX3_falseCut_45 : decode cX3_falseCut 45 = .ok (.aload 6, 2) := by decide +kernel
theorem dX3_falseCut_47 : decode cX3_falseCut 47 = .ok (.iconst 0, 1) := by decide +kernel
theorem dX3_falseCut_48 : decode cX3_falseCut 48 = .ok (.iload_n 1, 1) := by decide +kernel
theorem dX3_falseCut_49 : decode cX3_falseCut 49 = .ok (.invokevirtual 41, 3) := by decide +kernel
theorem dX3_falseCut_52 : decode cX3_falseCut 52 = .ok (.iinc 2 1, 3) := by decide +kernel
theorem dX3_falseCut_55 : decode cX3_falseCut 55 = .ok (.iinc 5 1, 3) := by decide +kernel
theorem dX3_falseCut_58 : decode cX3_falseCut 58 = .ok (.goto (-39), 3) := by decide +kernel
theorem dX3_falseCut_61 : decode cX3_falseCut 61 = .ok (.aload_n 0, 1) := by decide +kernel
theorem dX3_falseCut_62 : decode cX3_falseCut 62 = .ok (.dup, 1) := by decide +kernel
theorem dX3_falseCut_63 : decode cX3_falseCut 63 = .ok (.getfield 56, 3) := by decide +kernel
theorem dX3_falseCut_66 : decode cX3_falseCut 66 = .ok (.iconst 1, 1) := by decide +kernel
theorem dX3_falseCut_67 : decode cX3_falseCut 67 = .ok (.iadd, 1) := by decide +kernel
theorem dX3_falseCut_68 : decode cX3_falseCut 68 = .ok (.putfield 56, 3) := by decide +kernel
theorem dX3_falseCut_71 : decode cX3_falseCut 71 = .ok (.iload_n 2, 1) := by decide +kernel
theorem dX3_falseCut_72 : decode cX3_falseCut 72 = .ok (.ireturn, 1) := by decide +kernel
set_option maxRecDepth 20000 in
theorem ggX3_comes_X3_requireWay : GoodIn wsX3_comes wsX3_requireWay := goodIn_ca (goodIn_r _ [4, 5, 6, 7, 8, 3, 9] (by decide +kernel) (by decide +kernel)) (goodIn_sub (fun _ h => List.mem_cons_of_mem _ (List.mem_append_left _ (List.mem_append_right _ h))) (by decide +kernel))
set_option maxRecDepth 20000 in
theorem gX3_comes_X3_requireWay : GoodIn wsX3_comes (va_wsS RX3 34 yX3_requireWay wsX3_requireWay) := goodIn_app (goodIn_of _ (by decide +kernel)) ggX3_comes_X3_requireWay
set_option maxRecDepth 20000 in
theorem ggX3_comes_X3_requirePlace : GoodIn wsX3_comes wsX3_requirePlace := goodIn_ca (goodIn_r _ [12, 13, 14, 15, 16, 3, 17] (by decide +kernel) (by decide +kernel)) (goodIn_sub (fun _ h => List.mem_cons_of_mem _ (List.mem_append_right _ h)) (by decide +kernel))
set_option maxRecDepth 20000 in
theorem gX3_comes_X3_requirePlace : GoodIn wsX3_comes (va_wsS RX3 59 yX3_requirePlace wsX3_requirePlace) := goodIn_app (goodIn_of _ (by decide +kernel)) ggX3_comes_X3_requirePlace
set_option maxRecDepth 20000 in
theorem ggX3_comes_X3_placeAfter : GoodIn wsX3_comes wsX3_placeAfter := goodIn_r _ [20, 21, 22, 3, 23] (by decide +kernel) (by decide +kernel)
set_option maxRecDepth 20000 in
theorem gX3_comes_X3_placeAfter : GoodIn wsX3_comes (va_wsS RX3 63 yX3_placeAfter wsX3_placeAfter) := goodIn_app (goodIn_of _ (by decide +kernel)) ggX3_comes_X3_placeAfter
theorem dX3_comes_0 : decode cX3_comes 0 = .ok (.iload_n 1, 1) := by decide +kernel
theorem dX3_comes_1 : decode cX3_comes 1 = .ok (.iload_n 2, 1) := by decide +kernel
theorem dX3_comes_2 : decode cX3_comes 2 = .ok (.invokestatic 34, 3) := by decide +kernel
theorem dX3_comes_5 : decode cX3_comes 5 = .ok (.iload_n 3, 1) := by decide +kernel
theorem dX3_comes_6 : decode cX3_comes 6 = .ok (.invokestatic 59, 3) := by decide +kernel
theorem dX3_comes_9 : decode cX3_comes 9 = .ok (.iload_n 1, 1) := by decide +kernel
theorem dX3_comes_10 : decode cX3_comes 10 = .ok (.iload_n 2, 1) := by decide +kernel
theorem dX3_comes_11 : decode cX3_comes 11 = .ok (.iload_n 3, 1) := by decide +kernel
theorem dX3_comes_12 : decode cX3_comes 12 = .ok (.invokestatic 63, 3) := by decide +kernel
theorem dX3_comes_15 : decode cX3_comes 15 = .ok (.ireturn, 1) := by decide +kernel
set_option maxRecDepth 20000 in
theorem ggX3_card_X3_requirePlace : GoodIn wsX3_card wsX3_requirePlace := goodIn_ca (goodIn_r _ [5, 6, 7, 8, 9, 4, 10] (by decide +kernel) (by decide +kernel)) (goodIn_sub (fun _ h => List.mem_cons_of_mem _ (List.mem_append_right _ h)) (by decide +kernel))
set_option maxRecDepth 20000 in
theorem gX3_card_X3_requirePlace : GoodIn wsX3_card (va_wsS RX3 59 yX3_requirePlace wsX3_requirePlace) := goodIn_app (goodIn_of _ (by decide +kernel)) ggX3_card_X3_requirePlace
set_option maxRecDepth 20000 in
theorem ggX3_card_X1_at : GoodIn wsX3_card wsX1_at := goodIn_r _ [15, 16, 9, 4, 10, 27, 28] (by decide +kernel) (by decide +kernel)
set_option maxRecDepth 20000 in
theorem gX3_card_X1_at : GoodIn wsX3_card (wsV RX3 48 RX1 yX1_at wsX1_at) := goodIn_app (goodIn_of _ (by decide +kernel)) ggX3_card_X1_at
theorem dX3_card_0 : decode cX3_card 0 = .ok (.iload_n 1, 1) := by decide +kernel
theorem dX3_card_1 : decode cX3_card 1 = .ok (.invokestatic 59, 3) := by decide +kernel
theorem dX3_card_4 : decode cX3_card 4 = .ok (.aload_n 0, 1) := by decide +kernel
theorem dX3_card_5 : decode cX3_card 5 = .ok (.getfield 12, 3) := by decide +kernel
theorem dX3_card_8 : decode cX3_card 8 = .ok (.iload_n 1, 1) := by decide +kernel
theorem dX3_card_9 : decode cX3_card 9 = .ok (.invokevirtual 48, 3) := by decide +kernel
theorem dX3_card_12 : decode cX3_card 12 = .ok (.ireturn, 1) := by decide +kernel
set_option maxRecDepth 20000 in
theorem ggX3_find_X3_requireCard : GoodIn wsX3_find wsX3_requireCard := goodIn_ca (goodIn_r _ [5, 6, 7, 8, 9, 4, 10] (by decide +kernel) (by decide +kernel)) (goodIn_sub (fun _ h => List.mem_cons_of_mem _ (List.mem_append_right _ h)) (by decide +kernel))
set_option maxRecDepth 20000 in
theorem gX3_find_X3_requireCard : GoodIn wsX3_find (va_wsS RX3 67 yX3_requireCard wsX3_requireCard) := goodIn_app (goodIn_of _ (by decide +kernel)) ggX3_find_X3_requireCard
set_option maxRecDepth 20000 in
theorem ggX3_find_X1_firstPlaceOf : GoodIn wsX3_find wsX1_firstPlaceOf := goodIn_r _ [15, 16, 27, 28] (by decide +kernel) (by decide +kernel)
set_option maxRecDepth 20000 in
theorem gX3_find_X1_firstPlaceOf : GoodIn wsX3_find (wsV RX3 70 RX1 yX1_firstPlaceOf wsX1_firstPlaceOf) := goodIn_app (goodIn_of _ (by decide +kernel)) ggX3_find_X1_firstPlaceOf
theorem dX3_find_0 : decode cX3_find 0 = .ok (.iload_n 1, 1) := by decide +kernel
theorem dX3_find_1 : decode cX3_find 1 = .ok (.invokestatic 67, 3) := by decide +kernel
theorem dX3_find_4 : decode cX3_find 4 = .ok (.aload_n 0, 1) := by decide +kernel
theorem dX3_find_5 : decode cX3_find 5 = .ok (.getfield 12, 3) := by decide +kernel
theorem dX3_find_8 : decode cX3_find 8 = .ok (.iload_n 1, 1) := by decide +kernel
theorem dX3_find_9 : decode cX3_find 9 = .ok (.invokevirtual 70, 3) := by decide +kernel
theorem dX3_find_12 : decode cX3_find 12 = .ok (.ireturn, 1) := by decide +kernel
set_option maxRecDepth 20000 in
theorem ggX3_watch_X2_init : GoodIn wsX3_watch wsX2_init := goodIn_r _ [10, 11, 12, 13, 14, 15, 16, 17, 18, 19, 20, 21, 22, 23, 24, 25, 26, 27, 28, 29, 30, 31, 32, 47, 48, 43, 44, 45, 46] (by decide +kernel) (by decide +kernel)
set_option maxRecDepth 20000 in
theorem gX3_watch_X2_init : GoodIn wsX3_watch (wsX2_init) := ggX3_watch_X2_init
theorem dX3_watch_0 : decode cX3_watch 0 = .ok (.aload_n 0, 1) := by decide +kernel
theorem dX3_watch_1 : decode cX3_watch 1 = .ok (.getfield 73, 3) := by decide +kernel
theorem dX3_watch_4 : decode cX3_watch 4 = .ok (.istore_n 2, 1) := by decide +kernel
theorem dX3_watch_5 : decode cX3_watch 5 = .ok (.iload_n 2, 1) := by decide +kernel
theorem dX3_watch_6 : decode cX3_watch 6 = .ok (.ifCond .lt 12, 3) := by decide +kernel
theorem dX3_watch_9 : decode cX3_watch 9 = .ok (.iload_n 2, 1) := by decide +kernel
theorem dX3_watch_10 : decode cX3_watch 10 = .ok (.aload_n 0, 1) := by decide +kernel
theorem dX3_watch_11 : decode cX3_watch 11 = .ok (.getfield 21, 3) := by decide +kernel
theorem dX3_watch_14 : decode cX3_watch 14 = .ok (.arraylength, 1) := by decide +kernel
theorem dX3_watch_15 : decode cX3_watch 15 = .ok (.if_icmp .lt 13, 3) := by decide +kernel
theorem dX3_watch_18 : decode cX3_watch 18 = .ok (.new 76, 3) := by decide +kernel
theorem dX3_watch_21 : decode cX3_watch 21 = .ok (.dup, 1) := by decide +kernel
theorem dX3_watch_22 : decode cX3_watch 22 = .ok (.ldc 78, 2) := by decide +kernel
theorem dX3_watch_24 : decode cX3_watch 24 = .ok (.invokespecial 80, 3) := by decide +kernel
theorem dX3_watch_27 : decode cX3_watch 27 = .ok (.athrow, 1) := by decide +kernel
theorem dX3_watch_28 : decode cX3_watch 28 = .ok (.aload_n 0, 1) := by decide +kernel
theorem dX3_watch_29 : decode cX3_watch 29 = .ok (.getfield 21, 3) := by decide +kernel
theorem dX3_watch_32 : decode cX3_watch 32 = .ok (.iload_n 2, 1) := by decide +kernel
theorem dX3_watch_33 : decode cX3_watch 33 = .ok (.new 19, 3) := by decide +kernel
theorem dX3_watch_36 : decode cX3_watch 36 = .ok (.dup, 1) := by decide +kernel
theorem dX3_watch_37 : decode cX3_watch 37 = .ok (.iload_n 1, 1) := by decide +kernel
theorem dX3_watch_38 : decode cX3_watch 38 = .ok (.invokespecial 83, 3) := by decide +kernel
theorem dX3_watch_41 : decode cX3_watch 41 = .ok (.aastore, 1) := by decide +kernel
theorem dX3_watch_42 : decode cX3_watch 42 = .ok (.aload_n 0, 1) := by decide +kernel
theorem dX3_watch_43 : decode cX3_watch 43 = .ok (.dup, 1) := by decide +kernel
theorem dX3_watch_44 : decode cX3_watch 44 = .ok (.getfield 73, 3) := by decide +kernel
theorem dX3_watch_47 : decode cX3_watch 47 = .ok (.iconst 1, 1) := by decide +kernel
theorem dX3_watch_48 : decode cX3_watch 48 = .ok (.iadd, 1) := by decide +kernel
theorem dX3_watch_49 : decode cX3_watch 49 = .ok (.putfield 73, 3) := by decide +kernel
theorem dX3_watch_52 : decode cX3_watch 52 = .ok (.iload_n 2, 1) := by decide +kernel
theorem dX3_watch_53 : decode cX3_watch 53 = .ok (.ireturn, 1) := by decide +kernel
set_option maxRecDepth 20000 in
theorem ggX3_glimpse_X3_watcherOf : GoodIn wsX3_glimpse wsX3_watcherOf := goodIn_ca (goodIn_r _ [6, 7, 8, 9, 63, 64, 65, 66, 67, 68, 69, 70, 71, 72] (by decide +kernel) (by decide +kernel)) (goodIn_sub (fun _ h => List.mem_cons_of_mem _ (List.mem_append_right _ h)) (by decide +kernel))
set_option maxRecDepth 20000 in
theorem gX3_glimpse_X3_watcherOf : GoodIn wsX3_glimpse (wsV RX3 86 RX3 yX3_watcherOf wsX3_watcherOf) := goodIn_app (goodIn_of _ (by decide +kernel)) ggX3_glimpse_X3_watcherOf
set_option maxRecDepth 20000 in
theorem ggX3_glimpse_X3_requirePlace : GoodIn wsX3_glimpse wsX3_requirePlace := goodIn_ca (goodIn_r _ [12, 7, 8, 13, 14, 5, 15] (by decide +kernel) (by decide +kernel)) (goodIn_sub (fun _ h => List.mem_cons_of_mem _ (List.mem_append_right _ h)) (by decide +kernel))
set_option maxRecDepth 20000 in
theorem gX3_glimpse_X3_requirePlace : GoodIn wsX3_glimpse (va_wsS RX3 59 yX3_requirePlace wsX3_requirePlace) := goodIn_app (goodIn_of _ (by decide +kernel)) ggX3_glimpse_X3_requirePlace
set_option maxRecDepth 20000 in
theorem ggX3_glimpse_X1_at : GoodIn wsX3_glimpse wsX1_at := goodIn_r _ [20, 21, 14, 5, 15, 73, 74] (by decide +kernel) (by decide +kernel)
set_option maxRecDepth 20000 in
theorem gX3_glimpse_X1_at : GoodIn wsX3_glimpse (wsV RX3 48 RX1 yX1_at wsX1_at) := goodIn_app (goodIn_of _ (by decide +kernel)) ggX3_glimpse_X1_at
set_option maxRecDepth 20000 in
theorem ggX3_glimpse_X2_see : GoodIn wsX3_glimpse wsX2_see := goodIn_r _ [26, 27, 28, 29, 30, 5, 31, 32, 33, 34, 19, 35, 21, 14, 15, 36, 37, 38, 25, 39, 40, 17, 18, 20, 41, 42, 43, 44, 45, 46, 47, 48, 49, 50, 51, 52, 53, 54, 55, 56, 57, 58, 59, 60, 61, 62, 75, 76, 77, 78, 73, 74] (by decide +kernel) (by decide +kernel)
set_option maxRecDepth 20000 in
theorem gX3_glimpse_X2_see : GoodIn wsX3_glimpse (wsV RX3 90 RX2 yX2_see wsX2_see) := goodIn_app (goodIn_of _ (by decide +kernel)) ggX3_glimpse_X2_see
theorem dX3_glimpse_0 : decode cX3_glimpse 0 = .ok (.aload_n 0, 1) := by decide +kernel
theorem dX3_glimpse_1 : decode cX3_glimpse 1 = .ok (.iload_n 1, 1) := by decide +kernel
theorem dX3_glimpse_2 : decode cX3_glimpse 2 = .ok (.invokevirtual 86, 3) := by decide +kernel
theorem dX3_glimpse_5 : decode cX3_glimpse 5 = .ok (.astore_n 3, 1) := by decide +kernel
theorem dX3_glimpse_6 : decode cX3_glimpse 6 = .ok (.iload_n 2, 1) := by decide +kernel
theorem dX3_glimpse_7 : decode cX3_glimpse 7 = .ok (.invokestatic 59, 3) := by decide +kernel
theorem dX3_glimpse_10 : decode cX3_glimpse 10 = .ok (.aload_n 0, 1) := by decide +kernel
theorem dX3_glimpse_11 : decode cX3_glimpse 11 = .ok (.getfield 12, 3) := by decide +kernel
theorem dX3_glimpse_14 : decode cX3_glimpse 14 = .ok (.iload_n 2, 1) := by decide +kernel
theorem dX3_glimpse_15 : decode cX3_glimpse 15 = .ok (.invokevirtual 48, 3) := by decide +kernel
theorem dX3_glimpse_18 : decode cX3_glimpse 18 = .ok (.istore 4, 2) := by decide +kernel
theorem dX3_glimpse_20 : decode cX3_glimpse 20 = .ok (.aload_n 3, 1) := by decide +kernel
theorem dX3_glimpse_21 : decode cX3_glimpse 21 = .ok (.iload_n 2, 1) := by decide +kernel
theorem dX3_glimpse_22 : decode cX3_glimpse 22 = .ok (.iload 4, 2) := by decide +kernel
theorem dX3_glimpse_24 : decode cX3_glimpse 24 = .ok (.invokevirtual 90, 3) := by decide +kernel
theorem dX3_glimpse_27 : decode cX3_glimpse 27 = .ok (.iload 4, 2) := by decide +kernel
theorem dX3_glimpse_29 : decode cX3_glimpse 29 = .ok (.ireturn, 1) := by decide +kernel
set_option maxRecDepth 20000 in
theorem ggX3_thinks_X3_watcherOf : GoodIn wsX3_thinks wsX3_watcherOf := goodIn_ca (goodIn_r _ [5, 6, 7, 8, 25, 26, 27, 28, 29, 30, 31, 32, 33, 34] (by decide +kernel) (by decide +kernel)) (goodIn_sub (fun _ h => List.mem_cons_of_mem _ (List.mem_append_right _ h)) (by decide +kernel))
set_option maxRecDepth 20000 in
theorem gX3_thinks_X3_watcherOf : GoodIn wsX3_thinks (wsV RX3 86 RX3 yX3_watcherOf wsX3_watcherOf) := goodIn_app (goodIn_of _ (by decide +kernel)) ggX3_thinks_X3_watcherOf
set_option maxRecDepth 20000 in
theorem ggX3_thinks_X3_requirePlace : GoodIn wsX3_thinks wsX3_requirePlace := goodIn_ca (goodIn_r _ [11, 6, 7, 12, 13, 4, 14] (by decide +kernel) (by decide +kernel)) (goodIn_sub (fun _ h => List.mem_cons_of_mem _ (List.mem_append_right _ h)) (by decide +kernel))
set_option maxRecDepth 20000 in
theorem gX3_thinks_X3_requirePlace : GoodIn wsX3_thinks (va_wsS RX3 59 yX3_requirePlace wsX3_requirePlace) := goodIn_app (goodIn_of _ (by decide +kernel)) ggX3_thinks_X3_requirePlace
set_option maxRecDepth 20000 in
theorem ggX3_thinks_X1_at : GoodIn wsX3_thinks wsX1_at := goodIn_r _ [19, 20, 13, 4, 14, 35, 36] (by decide +kernel) (by decide +kernel)
set_option maxRecDepth 20000 in
theorem gX3_thinks_X1_at : GoodIn wsX3_thinks (wsV RX3 48 RX1 yX1_at wsX1_at) := goodIn_app (goodIn_of _ (by decide +kernel)) ggX3_thinks_X1_at
theorem dX3_thinks_0 : decode cX3_thinks 0 = .ok (.aload_n 0, 1) := by decide +kernel
theorem dX3_thinks_1 : decode cX3_thinks 1 = .ok (.iload_n 1, 1) := by decide +kernel
theorem dX3_thinks_2 : decode cX3_thinks 2 = .ok (.invokevirtual 86, 3) := by decide +kernel
theorem dX3_thinks_5 : decode cX3_thinks 5 = .ok (.astore_n 3, 1) := by decide +kernel
theorem dX3_thinks_6 : decode cX3_thinks 6 = .ok (.iload_n 2, 1) := by decide +kernel
theorem dX3_thinks_7 : decode cX3_thinks 7 = .ok (.invokestatic 59, 3) := by decide +kernel
theorem dX3_thinks_10 : decode cX3_thinks 10 = .ok (.aload_n 3, 1) := by decide +kernel
theorem dX3_thinks_11 : decode cX3_thinks 11 = .ok (.getfield 93, 3) := by decide +kernel
theorem dX3_thinks_14 : decode cX3_thinks 14 = .ok (.iload_n 2, 1) := by decide +kernel
theorem dX3_thinks_15 : decode cX3_thinks 15 = .ok (.invokevirtual 48, 3) := by decide +kernel
theorem dX3_thinks_18 : decode cX3_thinks 18 = .ok (.ireturn, 1) := by decide +kernel
set_option maxRecDepth 20000 in
theorem ggX3_sure_X3_watcherOf : GoodIn wsX3_sure wsX3_watcherOf := goodIn_ca (goodIn_r _ [5, 6, 7, 8, 28, 29, 30, 31, 32, 33, 34, 35, 36, 37] (by decide +kernel) (by decide +kernel)) (goodIn_sub (fun _ h => List.mem_cons_of_mem _ (List.mem_append_right _ h)) (by decide +kernel))
set_option maxRecDepth 20000 in
theorem gX3_sure_X3_watcherOf : GoodIn wsX3_sure (wsV RX3 86 RX3 yX3_watcherOf wsX3_watcherOf) := goodIn_app (goodIn_of _ (by decide +kernel)) ggX3_sure_X3_watcherOf
set_option maxRecDepth 20000 in
theorem ggX3_sure_X3_requireCard : GoodIn wsX3_sure wsX3_requireCard := goodIn_ca (goodIn_r _ [11, 6, 7, 12, 13, 4, 14] (by decide +kernel) (by decide +kernel)) (goodIn_sub (fun _ h => List.mem_cons_of_mem _ (List.mem_append_right _ h)) (by decide +kernel))
set_option maxRecDepth 20000 in
theorem gX3_sure_X3_requireCard : GoodIn wsX3_sure (va_wsS RX3 67 yX3_requireCard wsX3_requireCard) := goodIn_app (goodIn_of _ (by decide +kernel)) ggX3_sure_X3_requireCard
set_option maxRecDepth 20000 in
theorem ggX3_sure_X3_setOf : GoodIn wsX3_sure wsX3_setOf := goodIn_r _ [17] (by decide +kernel) (by decide +kernel)
set_option maxRecDepth 20000 in
theorem gX3_sure_X3_setOf : GoodIn wsX3_sure (va_wsS RX3 96 yX3_setOf wsX3_setOf) := goodIn_app (goodIn_of _ (by decide +kernel)) ggX3_sure_X3_setOf
set_option maxRecDepth 20000 in
theorem ggX3_sure_X1_firstPlaceOf : GoodIn wsX3_sure wsX1_firstPlaceOf := goodIn_r _ [22, 23, 38, 39] (by decide +kernel) (by decide +kernel)
set_option maxRecDepth 20000 in
theorem gX3_sure_X1_firstPlaceOf : GoodIn wsX3_sure (wsV RX3 70 RX1 yX1_firstPlaceOf wsX1_firstPlaceOf) := goodIn_app (goodIn_of _ (by decide +kernel)) ggX3_sure_X1_firstPlaceOf
theorem dX3_sure_0 : decode cX3_sure 0 = .ok (.aload_n 0, 1) := by decide +kernel
theorem dX3_sure_1 : decode cX3_sure 1 = .ok (.iload_n 1, 1) := by decide +kernel
theorem dX3_sure_2 : decode cX3_sure 2 = .ok (.invokevirtual 86, 3) := by decide +kernel
theorem dX3_sure_5 : decode cX3_sure 5 = .ok (.astore_n 3, 1) := by decide +kernel
theorem dX3_sure_6 : decode cX3_sure 6 = .ok (.iload_n 2, 1) := by decide +kernel
theorem dX3_sure_7 : decode cX3_sure 7 = .ok (.invokestatic 67, 3) := by decide +kernel
theorem dX3_sure_10 : decode cX3_sure 10 = .ok (.aload_n 3, 1) := by decide +kernel
theorem dX3_sure_11 : decode cX3_sure 11 = .ok (.getfield 93, 3) := by decide +kernel
theorem dX3_sure_14 : decode cX3_sure 14 = .ok (.iload_n 2, 1) := by decide +kernel
theorem dX3_sure_15 : decode cX3_sure 15 = .ok (.invokestatic 96, 3) := by decide +kernel
theorem dX3_sure_18 : decode cX3_sure 18 = .ok (.invokevirtual 70, 3) := by decide +kernel
theorem dX3_sure_21 : decode cX3_sure 21 = .ok (.ireturn, 1) := by decide +kernel
set_option maxRecDepth 20000 in
theorem ggX3_watcher_X3_watcherOf : GoodIn wsX3_watcher wsX3_watcherOf := goodIn_ca (goodIn_r _ [8, 1, 2, 9, 47, 48, 49, 50, 51, 52, 53, 54, 55, 56] (by decide +kernel) (by decide +kernel)) (goodIn_sub (fun _ h => List.mem_cons_of_mem _ (List.mem_append_right _ h)) (by decide +kernel))
set_option maxRecDepth 20000 in
theorem gX3_watcher_X3_watcherOf : GoodIn wsX3_watcher (wsV RX3 86 RX3 yX3_watcherOf wsX3_watcherOf) := goodIn_app (goodIn_of _ (by decide +kernel)) ggX3_watcher_X3_watcherOf
set_option maxRecDepth 20000 in
theorem ggX3_watcher_X2_placesHeldPossible : GoodIn wsX3_watcher wsX2_placesHeldPossible := goodIn_r _ [14, 15, 16, 17, 18, 19, 20, 21, 22, 7, 23, 24, 25, 43, 44, 45, 46, 57, 58] (by decide +kernel) (by decide +kernel)
set_option maxRecDepth 20000 in
theorem gX3_watcher_X2_placesHeldPossible : GoodIn wsX3_watcher (wsV RX3 99 RX2 yX2_placesHeldPossible wsX2_placesHeldPossible) := goodIn_app (goodIn_of _ (by decide +kernel)) ggX3_watcher_X2_placesHeldPossible
set_option maxRecDepth 20000 in
theorem ggX3_watcher_X2_placesSettled : GoodIn wsX3_watcher wsX2_placesSettled := goodIn_r _ [29, 15, 16, 17, 18, 19, 20, 21, 22, 7, 23, 30, 31, 32, 33, 34, 35, 36, 37, 38, 43, 44, 45, 46, 57, 58] (by decide +kernel) (by decide +kernel)
set_option maxRecDepth 20000 in
theorem gX3_watcher_X2_placesSettled : GoodIn wsX3_watcher (wsV RX3 103 RX2 yX2_placesSettled wsX2_placesSettled) := goodIn_app (goodIn_of _ (by decide +kernel)) ggX3_watcher_X2_placesSettled
set_option maxRecDepth 20000 in
theorem ggX3_watcher_X2_placesSettledRightly : GoodIn wsX3_watcher wsX2_placesSettledRightly := goodIn_r _ [42, 15, 16, 17, 18, 19, 20, 21, 22, 7, 23, 24, 25, 43, 44, 45, 46, 57, 58] (by decide +kernel) (by decide +kernel)
set_option maxRecDepth 20000 in
theorem gX3_watcher_X2_placesSettledRightly : GoodIn wsX3_watcher (wsV RX3 107 RX2 yX2_placesSettledRightly wsX2_placesSettledRightly) := goodIn_app (goodIn_of _ (by decide +kernel)) ggX3_watcher_X2_placesSettledRightly
theorem dX3_watcher_0 : decode cX3_watcher 0 = .ok (.aload_n 0, 1) := by decide +kernel
theorem dX3_watcher_1 : decode cX3_watcher 1 = .ok (.iload_n 1, 1) := by decide +kernel
theorem dX3_watcher_2 : decode cX3_watcher 2 = .ok (.invokevirtual 86, 3) := by decide +kernel
theorem dX3_watcher_5 : decode cX3_watcher 5 = .ok (.astore_n 3, 1) := by decide +kernel
theorem dX3_watcher_6 : decode cX3_watcher 6 = .ok (.iload_n 2, 1) := by decide +kernel
theorem dX3_watcher_7 : decode cX3_watcher 7 = .ok (.tableswitch 83 0 5 #[37, 50, 59, 64, 73, 78], 37) := by decide +kernel
theorem dX3_watcher_44 : decode cX3_watcher 44 = .ok (.aload_n 3, 1) := by decide +kernel
theorem dX3_watcher_45 : decode cX3_watcher 45 = .ok (.getfield 52, 3) := by decide +kernel
theorem dX3_watcher_48 : decode cX3_watcher 48 = .ok (.ifCond .eq 7, 3) := by decide +kernel
theorem dX3_watcher_51 : decode cX3_watcher 51 = .ok (.iconst 1, 1) := by decide +kernel
theorem dX3_watcher_52 : decode cX3_watcher 52 = .ok (.goto 4, 3) := by decide +kernel
theorem dX3_watcher_55 : decode cX3_watcher 55 = .ok (.iconst 0, 1) := by decide +kernel
theorem dX3_watcher_56 : decode cX3_watcher 56 = .ok (.ireturn, 1) := by decide +kernel
theorem dX3_watcher_57 : decode cX3_watcher 57 = .ok (.aload_n 3, 1) := by decide +kernel
theorem dX3_watcher_58 : decode cX3_watcher 58 = .ok (.aload_n 0, 1) := by decide +kernel
theorem dX3_watcher_59 : decode cX3_watcher 59 = .ok (.getfield 12, 3) := by decide +kernel
theorem dX3_watcher_62 : decode cX3_watcher 62 = .ok (.invokevirtual 99, 3) := by decide +kernel
theorem dX3_watcher_65 : decode cX3_watcher 65 = .ok (.ireturn, 1) := by decide +kernel
theorem dX3_watcher_66 : decode cX3_watcher 66 = .ok (.aload_n 3, 1) := by decide +kernel
theorem dX3_watcher_67 : decode cX3_watcher 67 = .ok (.invokevirtual 103, 3) := by decide +kernel
theorem dX3_watcher_70 : decode cX3_watcher 70 = .ok (.ireturn, 1) := by decide +kernel
theorem dX3_watcher_71 : decode cX3_watcher 71 = .ok (.aload_n 3, 1) := by decide +kernel
theorem dX3_watcher_72 : decode cX3_watcher 72 = .ok (.aload_n 0, 1) := by decide +kernel
theorem dX3_watcher_73 : decode cX3_watcher 73 = .ok (.getfield 12, 3) := by decide +kernel
theorem dX3_watcher_76 : decode cX3_watcher 76 = .ok (.invokevirtual 107, 3) := by decide +kernel
theorem dX3_watcher_79 : decode cX3_watcher 79 = .ok (.ireturn, 1) := by decide +kernel
theorem dX3_watcher_80 : decode cX3_watcher 80 = .ok (.aload_n 3, 1) := by decide +kernel
theorem dX3_watcher_81 : decode cX3_watcher 81 = .ok (.getfield 110, 3) := by decide +kernel
theorem dX3_watcher_84 : decode cX3_watcher 84 = .ok (.ireturn, 1) := by decide +kernel
theorem dX3_watcher_85 : decode cX3_watcher 85 = .ok (.aload_n 3, 1) := by decide +kernel
theorem dX3_watcher_86 : decode cX3_watcher 86 = .ok (.getfield 113, 3) := by decide +kernel
theorem dX3_watcher_89 : decode cX3_watcher 89 = .ok (.ireturn, 1) := by decide +kernel
theorem dX3_watcher_90 : decode cX3_watcher 90 = .ok (.new 116, 3) := by decide +kernel
theorem dX3_watcher_93 : decode cX3_watcher 93 = .ok (.dup, 1) := by decide +kernel
theorem dX3_watcher_94 : decode cX3_watcher 94 = .ok (.ldc 118, 2) := by decide +kernel
theorem dX3_watcher_96 : decode cX3_watcher 96 = .ok (.invokespecial 120, 3) := by decide +kernel
theorem dX3_watcher_99 : decode cX3_watcher 99 = .ok (.athrow, 1) := by decide +kernel
set_option maxRecDepth 20000 in
theorem ggX3_sit_X3_requireSixteenth : GoodIn wsX3_sit wsX3_requireSixteenth := goodIn_ca (goodIn_r _ [11, 12, 13, 14, 15, 10, 16] (by decide +kernel) (by decide +kernel)) (goodIn_sub (fun _ h => List.mem_cons_of_mem _ (List.mem_append_right _ h)) (by decide +kernel))
set_option maxRecDepth 20000 in
theorem gX3_sit_X3_requireSixteenth : GoodIn wsX3_sit (va_wsS RX3 121 yX3_requireSixteenth wsX3_requireSixteenth) := goodIn_app (goodIn_of _ (by decide +kernel)) ggX3_sit_X3_requireSixteenth
set_option maxRecDepth 20000 in
theorem ggX3_sit_X0_init : GoodIn wsX3_sit wsX0_init := goodIn_r _ [19, 20, 21, 22, 23, 24, 35, 36] (by decide +kernel) (by decide +kernel)
set_option maxRecDepth 20000 in
theorem gX3_sit_X0_init : GoodIn wsX3_sit (wsX0_init) := ggX3_sit_X0_init
theorem dX3_sit_0 : decode cX3_sit 0 = .ok (.iload_n 1, 1) := by decide +kernel
theorem dX3_sit_1 : decode cX3_sit 1 = .ok (.invokestatic 121, 3) := by decide +kernel
theorem dX3_sit_4 : decode cX3_sit 4 = .ok (.aload_n 0, 1) := by decide +kernel
theorem dX3_sit_5 : decode cX3_sit 5 = .ok (.getfield 124, 3) := by decide +kernel
theorem dX3_sit_8 : decode cX3_sit 8 = .ok (.istore_n 2, 1) := by decide +kernel
theorem dX3_sit_9 : decode cX3_sit 9 = .ok (.iload_n 2, 1) := by decide +kernel
theorem dX3_sit_10 : decode cX3_sit 10 = .ok (.ifCond .lt 12, 3) := by decide +kernel
theorem dX3_sit_13 : decode cX3_sit 13 = .ok (.iload_n 2, 1) := by decide +kernel
theorem dX3_sit_14 : decode cX3_sit 14 = .ok (.aload_n 0, 1) := by decide +kernel
theorem dX3_sit_15 : decode cX3_sit 15 = .ok (.getfield 27, 3) := by decide +kernel
theorem dX3_sit_18 : decode cX3_sit 18 = .ok (.arraylength, 1) := by decide +kernel
theorem dX3_sit_19 : decode cX3_sit 19 = .ok (.if_icmp .lt 13, 3) := by decide +kernel
theorem dX3_sit_22 : decode cX3_sit 22 = .ok (.new 76, 3) := by decide +kernel
theorem dX3_sit_25 : decode cX3_sit 25 = .ok (.dup, 1) := by decide +kernel
theorem dX3_sit_26 : decode cX3_sit 26 = .ok (.ldc 127, 2) := by decide +kernel
theorem dX3_sit_28 : decode cX3_sit 28 = .ok (.invokespecial 80, 3) := by decide +kernel
theorem dX3_sit_31 : decode cX3_sit 31 = .ok (.athrow, 1) := by decide +kernel
theorem dX3_sit_32 : decode cX3_sit 32 = .ok (.aload_n 0, 1) := by decide +kernel
theorem dX3_sit_33 : decode cX3_sit 33 = .ok (.getfield 27, 3) := by decide +kernel
theorem dX3_sit_36 : decode cX3_sit 36 = .ok (.iload_n 2, 1) := by decide +kernel
theorem dX3_sit_37 : decode cX3_sit 37 = .ok (.new 25, 3) := by decide +kernel
theorem dX3_sit_40 : decode cX3_sit 40 = .ok (.dup, 1) := by decide +kernel
theorem dX3_sit_41 : decode cX3_sit 41 = .ok (.iload_n 1, 1) := by decide +kernel
theorem dX3_sit_42 : decode cX3_sit 42 = .ok (.invokespecial 129, 3) := by decide +kernel
theorem dX3_sit_45 : decode cX3_sit 45 = .ok (.aastore, 1) := by decide +kernel
theorem dX3_sit_46 : decode cX3_sit 46 = .ok (.aload_n 0, 1) := by decide +kernel
theorem dX3_sit_47 : decode cX3_sit 47 = .ok (.dup, 1) := by decide +kernel
theorem dX3_sit_48 : decode cX3_sit 48 = .ok (.getfield 124, 3) := by decide +kernel
theorem dX3_sit_51 : decode cX3_sit 51 = .ok (.iconst 1, 1) := by decide +kernel
theorem dX3_sit_52 : decode cX3_sit 52 = .ok (.iadd, 1) := by decide +kernel
theorem dX3_sit_53 : decode cX3_sit 53 = .ok (.putfield 124, 3) := by decide +kernel
theorem dX3_sit_56 : decode cX3_sit 56 = .ok (.iload_n 2, 1) := by decide +kernel
theorem dX3_sit_57 : decode cX3_sit 57 = .ok (.ireturn, 1) := by decide +kernel
set_option maxRecDepth 20000 in
theorem ggX3_fan_X3_requireSixteenth : GoodIn wsX3_fan wsX3_requireSixteenth := goodIn_ca (goodIn_r _ [5, 6, 7, 8, 9, 4, 10] (by decide +kernel) (by decide +kernel)) (goodIn_sub (fun _ h => List.mem_cons_of_mem _ (List.mem_append_right _ h)) (by decide +kernel))
set_option maxRecDepth 20000 in
theorem gX3_fan_X3_requireSixteenth : GoodIn wsX3_fan (va_wsS RX3 121 yX3_requireSixteenth wsX3_requireSixteenth) := goodIn_app (goodIn_of _ (by decide +kernel)) ggX3_fan_X3_requireSixteenth
theorem dX3_fan_0 : decode cX3_fan 0 = .ok (.iload_n 1, 1) := by decide +kernel
theorem dX3_fan_1 : decode cX3_fan 1 = .ok (.invokestatic 121, 3) := by decide +kernel
theorem dX3_fan_4 : decode cX3_fan 4 = .ok (.aload_n 0, 1) := by decide +kernel
theorem dX3_fan_5 : decode cX3_fan 5 = .ok (.getfield 131, 3) := by decide +kernel
theorem dX3_fan_8 : decode cX3_fan 8 = .ok (.istore_n 2, 1) := by decide +kernel
theorem dX3_fan_9 : decode cX3_fan 9 = .ok (.aload_n 0, 1) := by decide +kernel
theorem dX3_fan_10 : decode cX3_fan 10 = .ok (.iload_n 1, 1) := by decide +kernel
theorem dX3_fan_11 : decode cX3_fan 11 = .ok (.putfield 131, 3) := by decide +kernel
theorem dX3_fan_14 : decode cX3_fan 14 = .ok (.iload_n 2, 1) := by decide +kernel
theorem dX3_fan_15 : decode cX3_fan 15 = .ok (.ireturn, 1) := by decide +kernel
set_option maxRecDepth 20000 in
theorem ggX3_take_X3_playerOf : GoodIn wsX3_take wsX3_playerOf := goodIn_ca (goodIn_r _ [8, 9, 10, 11, 26, 27, 28, 29, 30, 31, 32, 33, 34, 35] (by decide +kernel) (by decide +kernel)) (goodIn_sub (fun _ h => List.mem_cons_of_mem _ (List.mem_append_right _ h)) (by decide +kernel))
set_option maxRecDepth 20000 in
theorem gX3_take_X3_playerOf : GoodIn wsX3_take (wsV RX3 134 RX3 yX3_playerOf wsX3_playerOf) := goodIn_app (goodIn_of _ (by decide +kernel)) ggX3_take_X3_playerOf
set_option maxRecDepth 20000 in
theorem ggX3_take_J9_floorMod_7cf53 : GoodIn wsX3_take wsJ9_floorMod_7cf53 := goodIn_r _ [15] (by decide +kernel) (by decide +kernel)
set_option maxRecDepth 20000 in
theorem gX3_take_J9_floorMod_7cf53 : GoodIn wsX3_take (va_wsS RX3 144 yJ9_floorMod_7cf53 wsJ9_floorMod_7cf53) := goodIn_app (goodIn_of _ (by decide +kernel)) ggX3_take_J9_floorMod_7cf53
set_option maxRecDepth 20000 in
theorem ggX3_take_X1_at : GoodIn wsX3_take wsX1_at := goodIn_r _ [20, 21, 22, 7, 23, 36, 37] (by decide +kernel) (by decide +kernel)
set_option maxRecDepth 20000 in
theorem gX3_take_X1_at : GoodIn wsX3_take (wsV RX3 48 RX1 yX1_at wsX1_at) := goodIn_app (goodIn_of _ (by decide +kernel)) ggX3_take_X1_at
theorem dX3_take_0 : decode cX3_take 0 = .ok (.aload_n 0, 1) := by decide +kernel
theorem dX3_take_1 : decode cX3_take 1 = .ok (.iload_n 1, 1) := by decide +kernel
theorem dX3_take_2 : decode cX3_take 2 = .ok (.invokevirtual 134, 3) := by decide +kernel
theorem dX3_take_5 : decode cX3_take 5 = .ok (.astore_n 2, 1) := by decide +kernel
theorem dX3_take_6 : decode cX3_take 6 = .ok (.aload_n 2, 1) := by decide +kernel
theorem dX3_take_7 : decode cX3_take 7 = .ok (.getfield 138, 3) := by decide +kernel
theorem dX3_take_10 : decode cX3_take 10 = .ok (.aload_n 0, 1) := by decide +kernel
theorem dX3_take_11 : decode cX3_take 11 = .ok (.getfield 131, 3) := by decide +kernel
theorem dX3_take_14 : decode cX3_take 14 = .ok (.iadd, 1) := by decide +kernel
theorem dX3_take_15 : decode cX3_take 15 = .ok (.aload_n 0, 1) := by decide +kernel
theorem dX3_take_16 : decode cX3_take 16 = .ok (.getfield 141, 3) := by decide +kernel
theorem dX3_take_19 : decode cX3_take 19 = .ok (.iadd, 1) := by decide +kernel
theorem dX3_take_20 : decode cX3_take 20 = .ok (.bipush 16, 2) := by decide +kernel
theorem dX3_take_22 : decode cX3_take 22 = .ok (.invokestatic 144, 3) := by decide +kernel
theorem dX3_take_25 : decode cX3_take 25 = .ok (.istore_n 3, 1) := by decide +kernel
theorem dX3_take_26 : decode cX3_take 26 = .ok (.aload_n 2, 1) := by decide +kernel
theorem dX3_take_27 : decode cX3_take 27 = .ok (.aload_n 0, 1) := by decide +kernel
theorem dX3_take_28 : decode cX3_take 28 = .ok (.getfield 12, 3) := by decide +kernel
theorem dX3_take_31 : decode cX3_take 31 = .ok (.iload_n 3, 1) := by decide +kernel
theorem dX3_take_32 : decode cX3_take 32 = .ok (.invokevirtual 48, 3) := by decide +kernel
theorem dX3_take_35 : decode cX3_take 35 = .ok (.putfield 150, 3) := by decide +kernel
theorem dX3_take_38 : decode cX3_take 38 = .ok (.aload_n 0, 1) := by decide +kernel
theorem dX3_take_39 : decode cX3_take 39 = .ok (.dup, 1) := by decide +kernel
theorem dX3_take_40 : decode cX3_take 40 = .ok (.getfield 141, 3) := by decide +kernel
theorem dX3_take_43 : decode cX3_take 43 = .ok (.iconst 1, 1) := by decide +kernel
theorem dX3_take_44 : decode cX3_take 44 = .ok (.iadd, 1) := by decide +kernel
theorem dX3_take_45 : decode cX3_take 45 = .ok (.putfield 141, 3) := by decide +kernel
theorem dX3_take_48 : decode cX3_take 48 = .ok (.aload_n 2, 1) := by decide +kernel
theorem dX3_take_49 : decode cX3_take 49 = .ok (.getfield 150, 3) := by decide +kernel
theorem dX3_take_52 : decode cX3_take 52 = .ok (.ireturn, 1) := by decide +kernel
set_option maxRecDepth 20000 in
theorem ggX3_force_X3_playerOf : GoodIn wsX3_force wsX3_playerOf := goodIn_ca (goodIn_r _ [7, 8, 9, 10, 27, 28, 29, 30, 31, 32, 33, 34, 35, 36] (by decide +kernel) (by decide +kernel)) (goodIn_sub (fun _ h => List.mem_cons_of_mem _ (List.mem_append_right _ h)) (by decide +kernel))
set_option maxRecDepth 20000 in
theorem gX3_force_X3_playerOf : GoodIn wsX3_force (wsV RX3 134 RX3 yX3_playerOf wsX3_playerOf) := goodIn_app (goodIn_of _ (by decide +kernel)) ggX3_force_X3_playerOf
set_option maxRecDepth 20000 in
theorem ggX3_force_X3_requireCard : GoodIn wsX3_force wsX3_requireCard := goodIn_ca (goodIn_r _ [13, 8, 9, 14, 15, 6, 16] (by decide +kernel) (by decide +kernel)) (goodIn_sub (fun _ h => List.mem_cons_of_mem _ (List.mem_append_right _ h)) (by decide +kernel))
set_option maxRecDepth 20000 in
theorem gX3_force_X3_requireCard : GoodIn wsX3_force (va_wsS RX3 67 yX3_requireCard wsX3_requireCard) := goodIn_app (goodIn_of _ (by decide +kernel)) ggX3_force_X3_requireCard
set_option maxRecDepth 20000 in
theorem ggX3_force_X1_firstPlaceOf : GoodIn wsX3_force wsX1_firstPlaceOf := goodIn_r _ [21, 22, 39, 40] (by decide +kernel) (by decide +kernel)
set_option maxRecDepth 20000 in
theorem gX3_force_X1_firstPlaceOf : GoodIn wsX3_force (wsV RX3 70 RX1 yX1_firstPlaceOf wsX1_firstPlaceOf) := goodIn_app (goodIn_of _ (by decide +kernel)) ggX3_force_X1_firstPlaceOf
set_option maxRecDepth 20000 in
theorem ggX3_force_J9_floorMod_7cf53 : GoodIn wsX3_force wsJ9_floorMod_7cf53 := goodIn_r _ [26] (by decide +kernel) (by decide +kernel)
set_option maxRecDepth 20000 in
theorem gX3_force_J9_floorMod_7cf53 : GoodIn wsX3_force (va_wsS RX3 144 yJ9_floorMod_7cf53 wsJ9_floorMod_7cf53) := goodIn_app (goodIn_of _ (by decide +kernel)) ggX3_force_J9_floorMod_7cf53
theorem dX3_force_0 : decode cX3_force 0 = .ok (.aload_n 0, 1) := by decide +kernel
theorem dX3_force_1 : decode cX3_force 1 = .ok (.iload_n 1, 1) := by decide +kernel
theorem dX3_force_2 : decode cX3_force 2 = .ok (.invokevirtual 134, 3) := by decide +kernel
theorem dX3_force_5 : decode cX3_force 5 = .ok (.astore_n 3, 1) := by decide +kernel
theorem dX3_force_6 : decode cX3_force 6 = .ok (.iload_n 2, 1) := by decide +kernel
theorem dX3_force_7 : decode cX3_force 7 = .ok (.invokestatic 67, 3) := by decide +kernel
theorem dX3_force_10 : decode cX3_force 10 = .ok (.aload_n 0, 1) := by decide +kernel
theorem dX3_force_11 : decode cX3_force 11 = .ok (.getfield 12, 3) := by decide +kernel
theorem dX3_force_14 : decode cX3_force 14 = .ok (.iload_n 2, 1) := by decide +kernel
theorem dX3_force_15 : decode cX3_force 15 = .ok (.invokevirtual 70, 3) := by decide +kernel
theorem dX3_force_18 : decode cX3_force 18 = .ok (.aload_n 3, 1) := by decide +kernel
theorem dX3_force_19 : decode cX3_force 19 = .ok (.getfield 138, 3) := by decide +kernel
theorem dX3_force_22 : decode cX3_force 22 = .ok (.isub, 1) := by decide +kernel
theorem dX3_force_23 : decode cX3_force 23 = .ok (.aload_n 0, 1) := by decide +kernel
theorem dX3_force_24 : decode cX3_force 24 = .ok (.getfield 141, 3) := by decide +kernel
theorem dX3_force_27 : decode cX3_force 27 = .ok (.isub, 1) := by decide +kernel
theorem dX3_force_28 : decode cX3_force 28 = .ok (.bipush 16, 2) := by decide +kernel
theorem dX3_force_30 : decode cX3_force 30 = .ok (.invokestatic 144, 3) := by decide +kernel
theorem dX3_force_33 : decode cX3_force 33 = .ok (.ireturn, 1) := by decide +kernel
set_option maxRecDepth 20000 in
theorem ggX3_took_X3_playerOf : GoodIn wsX3_took wsX3_playerOf := goodIn_ca (goodIn_r _ [5, 6, 7, 8, 11, 12, 13, 14, 15, 16, 17, 18, 19, 20] (by decide +kernel) (by decide +kernel)) (goodIn_sub (fun _ h => List.mem_cons_of_mem _ (List.mem_append_right _ h)) (by decide +kernel))
set_option maxRecDepth 20000 in
theorem gX3_took_X3_playerOf : GoodIn wsX3_took (wsV RX3 134 RX3 yX3_playerOf wsX3_playerOf) := goodIn_app (goodIn_of _ (by decide +kernel)) ggX3_took_X3_playerOf
theorem dX3_took_0 : decode cX3_took 0 = .ok (.aload_n 0, 1) := by decide +kernel
theorem dX3_took_1 : decode cX3_took 1 = .ok (.iload_n 1, 1) := by decide +kernel
theorem dX3_took_2 : decode cX3_took 2 = .ok (.invokevirtual 134, 3) := by decide +kernel
theorem dX3_took_5 : decode cX3_took 5 = .ok (.getfield 150, 3) := by decide +kernel
theorem dX3_took_8 : decode cX3_took 8 = .ok (.ireturn, 1) := by decide +kernel
set_option maxRecDepth 20000 in
theorem ggX3_count_X1_placesInOrder : GoodIn wsX3_count wsX1_placesInOrder := goodIn_r _ [14, 15, 26, 27] (by decide +kernel) (by decide +kernel)
set_option maxRecDepth 20000 in
theorem gX3_count_X1_placesInOrder : GoodIn wsX3_count (wsV RX3 153 RX1 yX1_placesInOrder wsX1_placesInOrder) := goodIn_app (goodIn_of _ (by decide +kernel)) ggX3_count_X1_placesInOrder
theorem dX3_count_0 : decode cX3_count 0 = .ok (.iload_n 1, 1) := by decide +kernel
theorem dX3_count_1 : decode cX3_count 1 = .ok (.tableswitch 81 0 6 #[43, 48, 53, 58, 63, 68, 73], 43) := by decide +kernel
theorem dX3_count_44 : decode cX3_count 44 = .ok (.aload_n 0, 1) := by decide +kernel
theorem dX3_count_45 : decode cX3_count 45 = .ok (.getfield 44, 3) := by decide +kernel
theorem dX3_count_48 : decode cX3_count 48 = .ok (.ireturn, 1) := by decide +kernel
theorem dX3_count_49 : decode cX3_count 49 = .ok (.aload_n 0, 1) := by decide +kernel
theorem dX3_count_50 : decode cX3_count 50 = .ok (.getfield 56, 3) := by decide +kernel
theorem dX3_count_53 : decode cX3_count 53 = .ok (.ireturn, 1) := by decide +kernel
theorem dX3_count_54 : decode cX3_count 54 = .ok (.aload_n 0, 1) := by decide +kernel
theorem dX3_count_55 : decode cX3_count 55 = .ok (.getfield 73, 3) := by decide +kernel
theorem dX3_count_58 : decode cX3_count 58 = .ok (.ireturn, 1) := by decide +kernel
theorem dX3_count_59 : decode cX3_count 59 = .ok (.aload_n 0, 1) := by decide +kernel
theorem dX3_count_60 : decode cX3_count 60 = .ok (.getfield 124, 3) := by decide +kernel
theorem dX3_count_63 : decode cX3_count 63 = .ok (.ireturn, 1) := by decide +kernel
theorem dX3_count_64 : decode cX3_count 64 = .ok (.aload_n 0, 1) := by decide +kernel
theorem dX3_count_65 : decode cX3_count 65 = .ok (.getfield 131, 3) := by decide +kernel
theorem dX3_count_68 : decode cX3_count 68 = .ok (.ireturn, 1) := by decide +kernel
theorem dX3_count_69 : decode cX3_count 69 = .ok (.aload_n 0, 1) := by decide +kernel
theorem dX3_count_70 : decode cX3_count 70 = .ok (.getfield 141, 3) := by decide +kernel
theorem dX3_count_73 : decode cX3_count 73 = .ok (.ireturn, 1) := by decide +kernel
theorem dX3_count_74 : decode cX3_count 74 = .ok (.aload_n 0, 1) := by decide +kernel
theorem dX3_count_75 : decode cX3_count 75 = .ok (.getfield 12, 3) := by decide +kernel
theorem dX3_count_78 : decode cX3_count 78 = .ok (.invokevirtual 153, 3) := by decide +kernel
theorem dX3_count_81 : decode cX3_count 81 = .ok (.ireturn, 1) := by decide +kernel
theorem dX3_count_82 : decode cX3_count 82 = .ok (.new 116, 3) := by decide +kernel
theorem dX3_count_85 : decode cX3_count 85 = .ok (.dup, 1) := by decide +kernel
theorem dX3_count_86 : decode cX3_count 86 = .ok (.ldc 156, 2) := by decide +kernel
theorem dX3_count_88 : decode cX3_count 88 = .ok (.invokespecial 120, 3) := by decide +kernel
theorem dX3_count_91 : decode cX3_count 91 = .ok (.athrow, 1) := by decide +kernel
set_option maxRecDepth 20000 in
theorem ggX3_back_X3_requireWay : GoodIn wsX3_back wsX3_requireWay := goodIn_ca (goodIn_r _ [5, 6, 7, 8, 9, 4, 10] (by decide +kernel) (by decide +kernel)) (goodIn_sub (fun _ h => List.mem_cons_of_mem _ (List.mem_append_right _ h)) (by decide +kernel))
set_option maxRecDepth 20000 in
theorem gX3_back_X3_requireWay : GoodIn wsX3_back (va_wsS RX3 34 yX3_requireWay wsX3_requireWay) := goodIn_app (goodIn_of _ (by decide +kernel)) ggX3_back_X3_requireWay
set_option maxRecDepth 20000 in
theorem ggX3_back_X1_putInOrder : GoodIn wsX3_back wsX1_putInOrder := goodIn_r _ [15, 16, 43, 44] (by decide +kernel) (by decide +kernel)
set_option maxRecDepth 20000 in
theorem gX3_back_X1_putInOrder : GoodIn wsX3_back (wsV RX3 31 RX1 yX1_putInOrder wsX1_putInOrder) := goodIn_app (goodIn_of _ (by decide +kernel)) ggX3_back_X1_putInOrder
set_option maxRecDepth 20000 in
theorem ggX3_back_X1_carry : GoodIn wsX3_back wsX1_carry := goodIn_r _ [20, 21, 16, 22, 4, 23, 24, 25, 26, 27, 28, 43, 44] (by decide +kernel) (by decide +kernel)
set_option maxRecDepth 20000 in
theorem gX3_back_X1_carry : GoodIn wsX3_back (wsV RX3 38 RX1 yX1_carry wsX1_carry) := goodIn_app (goodIn_of _ (by decide +kernel)) ggX3_back_X1_carry
set_option maxRecDepth 20000 in
theorem ggX3_back_X1_placesInOrder : GoodIn wsX3_back wsX1_placesInOrder := goodIn_r _ [32, 16, 43, 44] (by decide +kernel) (by decide +kernel)
set_option maxRecDepth 20000 in
theorem gX3_back_X1_placesInOrder : GoodIn wsX3_back (wsV RX3 153 RX1 yX1_placesInOrder wsX1_placesInOrder) := goodIn_app (goodIn_of _ (by decide +kernel)) ggX3_back_X1_placesInOrder
theorem dX3_back_0 : decode cX3_back 0 = .ok (.iload_n 1, 1) := by decide +kernel
theorem dX3_back_1 : decode cX3_back 1 = .ok (.iload_n 2, 1) := by decide +kernel
theorem dX3_back_2 : decode cX3_back 2 = .ok (.invokestatic 34, 3) := by decide +kernel
theorem dX3_back_5 : decode cX3_back 5 = .ok (.aload_n 0, 1) := by decide +kernel
theorem dX3_back_6 : decode cX3_back 6 = .ok (.getfield 16, 3) := by decide +kernel
theorem dX3_back_9 : decode cX3_back 9 = .ok (.invokevirtual 31, 3) := by decide +kernel
theorem dX3_back_12 : decode cX3_back 12 = .ok (.iconst 0, 1) := by decide +kernel
theorem dX3_back_13 : decode cX3_back 13 = .ok (.istore_n 3, 1) := by decide +kernel
theorem dX3_back_14 : decode cX3_back 14 = .ok (.aload_n 0, 1) := by decide +kernel
theorem dX3_back_15 : decode cX3_back 15 = .ok (.getfield 16, 3) := by decide +kernel
theorem dX3_back_18 : decode cX3_back 18 = .ok (.iload_n 1, 1) := by decide +kernel
theorem dX3_back_19 : decode cX3_back 19 = .ok (.iload_n 2, 1) := by decide +kernel
theorem dX3_back_20 : decode cX3_back 20 = .ok (.invokevirtual 38, 3) := by decide +kernel
theorem dX3_back_23 : decode cX3_back 23 = .ok (.iinc 3 1, 3) := by decide +kernel
theorem dX3_back_26 : decode cX3_back 26 = .ok (.aload_n 0, 1) := by decide +kernel
theorem dX3_back_27 : decode cX3_back 27 = .ok (.getfield 16, 3) := by decide +kernel
theorem dX3_back_30 : decode cX3_back 30 = .ok (.invokevirtual 153, 3) := by decide +kernel
theorem dX3_back_33 : decode cX3_back 33 = .ok (.bipush 16, 2) := by decide +kernel
theorem dX3_back_35 : decode cX3_back 35 = .ok (.if_icmp .ge 10, 3) := by decide +kernel
theorem dX3_back_38 : decode cX3_back 38 = .ok (.iload_n 3, 1) := by decide +kernel
theorem dX3_back_39 : decode cX3_back 39 = .ok (.sipush 1000, 3) := by decide +kernel
theorem dX3_back_42 : decode cX3_back 42 = .ok (.if_icmp .lt (-28), 3) := by decide +kernel
theorem dX3_back_45 : decode cX3_back 45 = .ok (.iload_n 3, 1) := by decide +kernel
theorem dX3_back_46 : decode cX3_back 46 = .ok (.ireturn, 1) := by decide +kernel
set_option maxRecDepth 20000 in
theorem ggX3_bring_X3_requireCard : GoodIn wsX3_bring wsX3_requireCard := goodIn_ca (goodIn_r _ [5, 6, 7, 8, 9, 4, 10] (by decide +kernel) (by decide +kernel)) (goodIn_sub (fun _ h => List.mem_cons_of_mem _ (List.mem_append_right _ h)) (by decide +kernel))
set_option maxRecDepth 20000 in
theorem gX3_bring_X3_requireCard : GoodIn wsX3_bring (va_wsS RX3 67 yX3_requireCard wsX3_requireCard) := goodIn_app (goodIn_of _ (by decide +kernel)) ggX3_bring_X3_requireCard
set_option maxRecDepth 20000 in
theorem ggX3_bring_X3_requirePlace : GoodIn wsX3_bring wsX3_requirePlace := goodIn_ca (goodIn_r _ [13, 6, 7, 8, 9, 4, 10] (by decide +kernel) (by decide +kernel)) (goodIn_sub (fun _ h => List.mem_cons_of_mem _ (List.mem_append_right _ h)) (by decide +kernel))
set_option maxRecDepth 20000 in
theorem gX3_bring_X3_requirePlace : GoodIn wsX3_bring (va_wsS RX3 59 yX3_requirePlace wsX3_requirePlace) := goodIn_app (goodIn_of _ (by decide +kernel)) ggX3_bring_X3_requirePlace
set_option maxRecDepth 20000 in
theorem ggX3_bring_X3_setOf : GoodIn wsX3_bring wsX3_setOf := goodIn_r _ [16] (by decide +kernel) (by decide +kernel)
set_option maxRecDepth 20000 in
theorem gX3_bring_X3_setOf : GoodIn wsX3_bring (va_wsS RX3 96 yX3_setOf wsX3_setOf) := goodIn_app (goodIn_of _ (by decide +kernel)) ggX3_bring_X3_setOf
set_option maxRecDepth 20000 in
theorem ggX3_bring_X1_firstPlaceOf : GoodIn wsX3_bring wsX1_firstPlaceOf := goodIn_r _ [21, 22, 42, 43] (by decide +kernel) (by decide +kernel)
set_option maxRecDepth 20000 in
theorem gX3_bring_X1_firstPlaceOf : GoodIn wsX3_bring (wsV RX3 70 RX1 yX1_firstPlaceOf wsX1_firstPlaceOf) := goodIn_app (goodIn_of _ (by decide +kernel)) ggX3_bring_X1_firstPlaceOf
set_option maxRecDepth 20000 in
theorem ggX3_bring_X3_placesOneWayFrom : GoodIn wsX3_bring wsX3_placesOneWayFrom := goodIn_r _ [25, 14, 15, 4, 16, 26, 27, 28, 29, 30, 31] (by decide +kernel) (by decide +kernel)
set_option maxRecDepth 20000 in
theorem gX3_bring_X3_placesOneWayFrom : GoodIn wsX3_bring (va_wsS RX3 158 yX3_placesOneWayFrom wsX3_placesOneWayFrom) := goodIn_app (goodIn_of _ (by decide +kernel)) ggX3_bring_X3_placesOneWayFrom
theorem dX3_bring_0 : decode cX3_bring 0 = .ok (.iload_n 1, 1) := by decide +kernel
theorem dX3_bring_1 : decode cX3_bring 1 = .ok (.invokestatic 67, 3) := by decide +kernel
theorem dX3_bring_4 : decode cX3_bring 4 = .ok (.iload_n 2, 1) := by decide +kernel
theorem dX3_bring_5 : decode cX3_bring 5 = .ok (.invokestatic 59, 3) := by decide +kernel
theorem dX3_bring_8 : decode cX3_bring 8 = .ok (.iload_n 2, 1) := by decide +kernel
theorem dX3_bring_9 : decode cX3_bring 9 = .ok (.invokestatic 96, 3) := by decide +kernel
theorem dX3_bring_12 : decode cX3_bring 12 = .ok (.istore_n 3, 1) := by decide +kernel
theorem dX3_bring_13 : decode cX3_bring 13 = .ok (.aload_n 0, 1) := by decide +kernel
theorem dX3_bring_14 : decode cX3_bring 14 = .ok (.getfield 12, 3) := by decide +kernel
theorem dX3_bring_17 : decode cX3_bring 17 = .ok (.iload_n 1, 1) := by decide +kernel
theorem dX3_bring_18 : decode cX3_bring 18 = .ok (.invokevirtual 70, 3) := by decide +kernel
theorem dX3_bring_21 : decode cX3_bring 21 = .ok (.invokestatic 96, 3) := by decide +kernel
theorem dX3_bring_24 : decode cX3_bring 24 = .ok (.istore 4, 2) := by decide +kernel
theorem dX3_bring_26 : decode cX3_bring 26 = .ok (.iconst 0, 1) := by decide +kernel
theorem dX3_bring_27 : decode cX3_bring 27 = .ok (.istore 5, 2) := by decide +kernel
theorem dX3_bring_29 : decode cX3_bring 29 = .ok (.iload 5, 2) := by decide +kernel
theorem dX3_bring_31 : decode cX3_bring 31 = .ok (.bipush 16, 2) := by decide +kernel
theorem dX3_bring_33 : decode cX3_bring 33 = .ok (.if_icmp .ge 29, 3) := by decide +kernel
theorem dX3_bring_36 : decode cX3_bring 36 = .ok (.iload 4, 2) := by decide +kernel
theorem dX3_bring_38 : decode cX3_bring 38 = .ok (.iload_n 3, 1) := by decide +kernel
theorem dX3_bring_39 : decode cX3_bring 39 = .ok (.iand, 1) := by decide +kernel
theorem dX3_bring_40 : decode cX3_bring 40 = .ok (.ifCond .eq 6, 3) := by decide +kernel
theorem dX3_bring_43 : decode cX3_bring 43 = .ok (.iload 5, 2) := by decide +kernel
theorem dX3_bring_45 : decode cX3_bring 45 = .ok (.ireturn, 1) := by decide +kernel
theorem dX3_bring_46 : decode cX3_bring 46 = .ok (.iload 4, 2) := by decide +kernel
theorem dX3_bring_48 : decode cX3_bring 48 = .ok (.iload 4, 2) := by decide +kernel
theorem dX3_bring_50 : decode cX3_bring 50 = .ok (.invokestatic 158, 3) := by decide +kernel
theorem dX3_bring_53 : decode cX3_bring 53 = .ok (.ior, 1) := by decide +kernel
theorem dX3_bring_54 : decode cX3_bring 54 = .ok (.istore 4, 2) := by decide +kernel
theorem dX3_bring_56 : decode cX3_bring 56 = .ok (.iinc 5 1, 3) := by decide +kernel
theorem dX3_bring_59 : decode cX3_bring 59 = .ok (.goto (-30), 3) := by decide +kernel
theorem dX3_bring_62 : decode cX3_bring 62 = .ok (.iconst (-1), 1) := by decide +kernel
theorem dX3_bring_63 : decode cX3_bring 63 = .ok (.ireturn, 1) := by decide +kernel
set_option maxRecDepth 20000 in
theorem ggX3_riffles_X3_requireCard : GoodIn wsX3_riffles wsX3_requireCard := goodIn_ca (goodIn_r _ [5, 6, 7, 8, 9, 4, 10] (by decide +kernel) (by decide +kernel)) (goodIn_sub (fun _ h => List.mem_cons_of_mem _ (List.mem_append_right _ h)) (by decide +kernel))
set_option maxRecDepth 20000 in
theorem gX3_riffles_X3_requireCard : GoodIn wsX3_riffles (va_wsS RX3 67 yX3_requireCard wsX3_requireCard) := goodIn_app (goodIn_of _ (by decide +kernel)) ggX3_riffles_X3_requireCard
set_option maxRecDepth 20000 in
theorem ggX3_riffles_X3_requirePlace : GoodIn wsX3_riffles wsX3_requirePlace := goodIn_ca (goodIn_r _ [13, 6, 7, 8, 9, 4, 10] (by decide +kernel) (by decide +kernel)) (goodIn_sub (fun _ h => List.mem_cons_of_mem _ (List.mem_append_right _ h)) (by decide +kernel))
set_option maxRecDepth 20000 in
theorem gX3_riffles_X3_requirePlace : GoodIn wsX3_riffles (va_wsS RX3 59 yX3_requirePlace wsX3_requirePlace) := goodIn_app (goodIn_of _ (by decide +kernel)) ggX3_riffles_X3_requirePlace
set_option maxRecDepth 20000 in
theorem ggX3_riffles_X1_firstPlaceOf : GoodIn wsX3_riffles wsX1_firstPlaceOf := goodIn_r _ [18, 19, 39, 40] (by decide +kernel) (by decide +kernel)
set_option maxRecDepth 20000 in
theorem gX3_riffles_X1_firstPlaceOf : GoodIn wsX3_riffles (wsV RX3 70 RX1 yX1_firstPlaceOf wsX1_firstPlaceOf) := goodIn_app (goodIn_of _ (by decide +kernel)) ggX3_riffles_X1_firstPlaceOf
set_option maxRecDepth 20000 in
theorem ggX3_riffles_X3_placeAfterRiffles : GoodIn wsX3_riffles wsX3_placeAfterRiffles := goodIn_r _ [22, 23, 24, 4, 25, 26, 27, 28] (by decide +kernel) (by decide +kernel)
set_option maxRecDepth 20000 in
theorem gX3_riffles_X3_placeAfterRiffles : GoodIn wsX3_riffles (va_wsS RX3 161 yX3_placeAfterRiffles wsX3_placeAfterRiffles) := goodIn_app (goodIn_of _ (by decide +kernel)) ggX3_riffles_X3_placeAfterRiffles
theorem dX3_riffles_0 : decode cX3_riffles 0 = .ok (.iload_n 1, 1) := by decide +kernel
theorem dX3_riffles_1 : decode cX3_riffles 1 = .ok (.invokestatic 67, 3) := by decide +kernel
theorem dX3_riffles_4 : decode cX3_riffles 4 = .ok (.iload_n 2, 1) := by decide +kernel
theorem dX3_riffles_5 : decode cX3_riffles 5 = .ok (.invokestatic 59, 3) := by decide +kernel
theorem dX3_riffles_8 : decode cX3_riffles 8 = .ok (.aload_n 0, 1) := by decide +kernel
theorem dX3_riffles_9 : decode cX3_riffles 9 = .ok (.getfield 12, 3) := by decide +kernel
theorem dX3_riffles_12 : decode cX3_riffles 12 = .ok (.iload_n 1, 1) := by decide +kernel
theorem dX3_riffles_13 : decode cX3_riffles 13 = .ok (.invokevirtual 70, 3) := by decide +kernel
theorem dX3_riffles_16 : decode cX3_riffles 16 = .ok (.istore_n 3, 1) := by decide +kernel
theorem dX3_riffles_17 : decode cX3_riffles 17 = .ok (.iconst 0, 1) := by decide +kernel
theorem dX3_riffles_18 : decode cX3_riffles 18 = .ok (.istore 4, 2) := by decide +kernel
theorem dX3_riffles_20 : decode cX3_riffles 20 = .ok (.iload 4, 2) := by decide +kernel
theorem dX3_riffles_22 : decode cX3_riffles 22 = .ok (.bipush 16, 2) := by decide +kernel
theorem dX3_riffles_24 : decode cX3_riffles 24 = .ok (.if_icmp .ge 49, 3) := by decide +kernel
theorem dX3_riffles_27 : decode cX3_riffles 27 = .ok (.iconst 1, 1) := by decide +kernel
theorem dX3_riffles_28 : decode cX3_riffles 28 = .ok (.iload 4, 2) := by decide +kernel
theorem dX3_riffles_30 : decode cX3_riffles 30 = .ok (.ishl, 1) := by decide +kernel
theorem dX3_riffles_31 : decode cX3_riffles 31 = .ok (.istore 5, 2) := by decide +kernel
theorem dX3_riffles_33 : decode cX3_riffles 33 = .ok (.iconst 0, 1) := by decide +kernel
theorem dX3_riffles_34 : decode cX3_riffles 34 = .ok (.istore 6, 2) := by decide +kernel
theorem dX3_riffles_36 : decode cX3_riffles 36 = .ok (.iload 6, 2) := by decide +kernel
theorem dX3_riffles_38 : decode cX3_riffles 38 = .ok (.iload 5, 2) := by decide +kernel
theorem dX3_riffles_40 : decode cX3_riffles 40 = .ok (.if_icmp .ge 27, 3) := by decide +kernel
theorem dX3_riffles_43 : decode cX3_riffles 43 = .ok (.iload_n 3, 1) := by decide +kernel
theorem dX3_riffles_44 : decode cX3_riffles 44 = .ok (.iload 6, 2) := by decide +kernel
theorem dX3_riffles_46 : decode cX3_riffles 46 = .ok (.iload 4, 2) := by decide +kernel
theorem dX3_riffles_48 : decode cX3_riffles 48 = .ok (.invokestatic 161, 3) := by decide +kernel
theorem dX3_riffles_51 : decode cX3_riffles 51 = .ok (.iload_n 2, 1) := by decide +kernel
theorem dX3_riffles_52 : decode cX3_riffles 52 = .ok (.if_icmp .ne 9, 3) := by decide +kernel
theorem dX3_riffles_55 : decode cX3_riffles 55 = .ok (.iload 5, 2) := by decide +kernel
theorem dX3_riffles_57 : decode cX3_riffles 57 = .ok (.iload 6, 2) := by decide +kernel
theorem dX3_riffles_59 : decode cX3_riffles 59 = .ok (.iadd, 1) := by decide +kernel
theorem dX3_riffles_60 : decode cX3_riffles 60 = .ok (.ireturn, 1) := by decide +kernel
theorem dX3_riffles_61 : decode cX3_riffles 61 = .ok (.iinc 6 1, 3) := by decide +kernel
theorem dX3_riffles_64 : decode cX3_riffles 64 = .ok (.goto (-28), 3) := by decide +kernel
theorem dX3_riffles_67 : decode cX3_riffles 67 = .ok (.iinc 4 1, 3) := by decide +kernel
theorem dX3_riffles_70 : decode cX3_riffles 70 = .ok (.goto (-50), 3) := by decide +kernel
theorem dX3_riffles_73 : decode cX3_riffles 73 = .ok (.iconst (-1), 1) := by decide +kernel
theorem dX3_riffles_74 : decode cX3_riffles 74 = .ok (.ireturn, 1) := by decide +kernel
set_option maxRecDepth 20000 in
theorem ggX3_mean_X2_cardsThought : GoodIn wsX3_mean wsX2_cardsThought := goodIn_r _ [7, 8, 9, 10, 11, 12, 13, 14, 15, 16, 17, 18, 19, 20, 21, 22, 23, 24, 35, 36, 37, 38, 39, 40] (by decide +kernel) (by decide +kernel)
set_option maxRecDepth 20000 in
theorem gX3_mean_X2_cardsThought : GoodIn wsX3_mean (wsV RX3 164 RX2 yX2_cardsThought wsX2_cardsThought) := goodIn_app (goodIn_of _ (by decide +kernel)) ggX3_mean_X2_cardsThought
theorem dX3_mean_0 : decode cX3_mean 0 = .ok (.iconst 0, 1) := by decide +kernel
theorem dX3_mean_1 : decode cX3_mean 1 = .ok (.istore_n 1, 1) := by decide +kernel
theorem dX3_mean_2 : decode cX3_mean 2 = .ok (.aload_n 0, 1) := by decide +kernel
theorem dX3_mean_3 : decode cX3_mean 3 = .ok (.getfield 21, 3) := by decide +kernel
theorem dX3_mean_6 : decode cX3_mean 6 = .ok (.astore_n 2, 1) := by decide +kernel
theorem dX3_mean_7 : decode cX3_mean 7 = .ok (.aload_n 2, 1) := by decide +kernel
theorem dX3_mean_8 : decode cX3_mean 8 = .ok (.arraylength, 1) := by decide +kernel
theorem dX3_mean_9 : decode cX3_mean 9 = .ok (.istore_n 3, 1) := by decide +kernel
theorem dX3_mean_10 : decode cX3_mean 10 = .ok (.iconst 0, 1) := by decide +kernel
theorem dX3_mean_11 : decode cX3_mean 11 = .ok (.istore 4, 2) := by decide +kernel
theorem dX3_mean_13 : decode cX3_mean 13 = .ok (.iload 4, 2) := by decide +kernel
theorem dX3_mean_15 : decode cX3_mean 15 = .ok (.iload_n 3, 1) := by decide +kernel
theorem dX3_mean_16 : decode cX3_mean 16 = .ok (.if_icmp .ge 28, 3) := by decide +kernel
theorem dX3_mean_19 : decode cX3_mean 19 = .ok (.aload_n 2, 1) := by decide +kernel
theorem dX3_mean_20 : decode cX3_mean 20 = .ok (.iload 4, 2) := by decide +kernel
theorem dX3_mean_22 : decode cX3_mean 22 = .ok (.aaload, 1) := by decide +kernel
theorem dX3_mean_23 : decode cX3_mean 23 = .ok (.astore 5, 2) := by decide +kernel
theorem dX3_mean_25 : decode cX3_mean 25 = .ok (.aload 5, 2) := by decide +kernel
theorem dX3_mean_27 : decode cX3_mean 27 = .ok (.ifnull 11, 3) := by decide +kernel
theorem dX3_mean_30 : decode cX3_mean 30 = .ok (.iload_n 1, 1) := by decide +kernel
theorem dX3_mean_31 : decode cX3_mean 31 = .ok (.aload 5, 2) := by decide +kernel
theorem dX3_mean_33 : decode cX3_mean 33 = .ok (.invokevirtual 164, 3) := by decide +kernel
theorem dX3_mean_36 : decode cX3_mean 36 = .ok (.iadd, 1) := by decide +kernel
theorem dX3_mean_37 : decode cX3_mean 37 = .ok (.istore_n 1, 1) := by decide +kernel
theorem dX3_mean_38 : decode cX3_mean 38 = .ok (.iinc 4 1, 3) := by decide +kernel
theorem dX3_mean_41 : decode cX3_mean 41 = .ok (.goto (-28), 3) := by decide +kernel
theorem dX3_mean_44 : decode cX3_mean 44 = .ok (.aload_n 0, 1) := by decide +kernel
theorem dX3_mean_45 : decode cX3_mean 45 = .ok (.getfield 73, 3) := by decide +kernel
theorem dX3_mean_48 : decode cX3_mean 48 = .ok (.bipush 16, 2) := by decide +kernel
theorem dX3_mean_50 : decode cX3_mean 50 = .ok (.imul, 1) := by decide +kernel
theorem dX3_mean_51 : decode cX3_mean 51 = .ok (.istore_n 2, 1) := by decide +kernel
theorem dX3_mean_52 : decode cX3_mean 52 = .ok (.iload_n 2, 1) := by decide +kernel
theorem dX3_mean_53 : decode cX3_mean 53 = .ok (.ifCond .le 11, 3) := by decide +kernel
theorem dX3_mean_56 : decode cX3_mean 56 = .ok (.iload_n 1, 1) := by decide +kernel
theorem dX3_mean_57 : decode cX3_mean 57 = .ok (.i2d, 1) := by decide +kernel
theorem dX3_mean_58 : decode cX3_mean 58 = .ok (.iload_n 2, 1) := by decide +kernel
theorem dX3_mean_59 : decode cX3_mean 59 = .ok (.i2d, 1) := by decide +kernel
theorem dX3_mean_60 : decode cX3_mean 60 = .ok (.ddiv, 1) := by decide +kernel
theorem dX3_mean_61 : decode cX3_mean 61 = .ok (.goto 4, 3) := by decide +kernel
theorem dX3_mean_64 : decode cX3_mean 64 = .ok (.dconst 0, 1) := by decide +kernel
theorem dX3_mean_65 : decode cX3_mean 65 = .ok (.dreturn, 1) := by decide +kernel
set_option maxRecDepth 20000 in
theorem ggX3_digest_X3_count : GoodIn wsX3_digest wsX3_count := goodIn_ca (goodIn_r _ [9, 10, 11, 12, 13, 3, 14, 15, 16, 2, 17, 18, 19, 20, 21, 22, 75, 76, 77, 78, 79, 80, 81, 82, 83, 84, 87, 88] (by decide +kernel) (by decide +kernel)) (goodIn_sub (fun _ h => List.mem_cons_of_mem _ (List.mem_append_right _ h)) (by decide +kernel))
set_option maxRecDepth 20000 in
theorem gX3_digest_X3_count : GoodIn wsX3_digest (wsV RX3 169 RX3 yX3_count wsX3_count) := goodIn_app (goodIn_of _ (by decide +kernel)) ggX3_digest_X3_count
set_option maxRecDepth 20000 in
theorem ggX3_digest_X3_mixed : GoodIn wsX3_digest wsX3_mixed := goodIn_r _ [25, 26] (by decide +kernel) (by decide +kernel)
set_option maxRecDepth 20000 in
theorem gX3_digest_X3_mixed : GoodIn wsX3_digest (va_wsS RX3 172 yX3_mixed wsX3_mixed) := goodIn_app (goodIn_of _ (by decide +kernel)) ggX3_digest_X3_mixed
set_option maxRecDepth 20000 in
theorem ggX3_digest_X1_mixedInto : GoodIn wsX3_digest wsX1_mixedInto := goodIn_r _ [30, 22, 24, 8, 25, 26, 87, 88] (by decide +kernel) (by decide +kernel)
set_option maxRecDepth 20000 in
theorem gX3_digest_X1_mixedInto : GoodIn wsX3_digest (wsV RX3 176 RX1 yX1_mixedInto wsX1_mixedInto) := goodIn_app (goodIn_of _ (by decide +kernel)) ggX3_digest_X1_mixedInto
set_option maxRecDepth 20000 in
theorem ggX3_digest_X3_watcherMixedInto : GoodIn wsX3_digest wsX3_watcherMixedInto := goodIn_ca (goodIn_r _ [34, 35, 36, 37, 8, 38, 10, 11, 2, 39, 40, 41, 42, 43, 44, 45, 46, 47, 48, 49, 50, 51, 52, 20, 53, 22, 54, 55, 56, 57, 58, 59, 60, 61, 62, 63, 64, 65, 66, 67, 68, 69, 70, 71, 72, 73, 74, 23, 24, 25, 26, 27, 28, 29, 30, 89, 90, 91, 92, 75, 76, 77, 78, 79, 80, 81, 82, 83, 84, 87, 88] (by decide +kernel) (by decide +kernel)) (goodIn_sub (fun _ h => List.mem_cons_of_mem _ (List.mem_append_right _ h)) (by decide +kernel))
set_option maxRecDepth 20000 in
theorem gX3_digest_X3_watcherMixedInto : GoodIn wsX3_digest (wsV RX3 180 RX3 yX3_watcherMixedInto wsX3_watcherMixedInto) := goodIn_app (goodIn_of _ (by decide +kernel)) ggX3_digest_X3_watcherMixedInto
theorem dX3_digest_0 : decode cX3_digest 0 = .ok (.ldc2_w 167, 3) := by decide +kernel
theorem dX3_digest_3 : decode cX3_digest 3 = .ok (.lstore_n 1, 1) := by decide +kernel
theorem dX3_digest_4 : decode cX3_digest 4 = .ok (.iconst 0, 1) := by decide +kernel
theorem dX3_digest_5 : decode cX3_digest 5 = .ok (.istore_n 3, 1) := by decide +kernel
theorem dX3_digest_6 : decode cX3_digest 6 = .ok (.iload_n 3, 1) := by decide +kernel
theorem dX3_digest_7 : decode cX3_digest 7 = .ok (.bipush 7, 2) := by decide +kernel
theorem dX3_digest_9 : decode cX3_digest 9 = .ok (.if_icmp .ge 19, 3) := by decide +kernel
theorem dX3_digest_12 : decode cX3_digest 12 = .ok (.lload_n 1, 1) := by decide +kernel
theorem dX3_digest_13 : decode cX3_digest 13 = .ok (.aload_n 0, 1) := by decide +kernel
theorem dX3_digest_14 : decode cX3_digest 14 = .ok (.iload_n 3, 1) := by decide +kernel
theorem dX3_digest_15 : decode cX3_digest 15 = .ok (.invokevirtual 169, 3) := by decide +kernel
theorem dX3_digest_18 : decode cX3_digest 18 = .ok (.invokestatic 172, 3) := by decide +kernel
theorem dX3_digest_21 : decode cX3_digest 21 = .ok (.lstore_n 1, 1) := by decide +kernel
theorem dX3_digest_22 : decode cX3_digest 22 = .ok (.iinc 3 1, 3) := by decide +kernel
theorem dX3_digest_25 : decode cX3_digest 25 = .ok (.goto (-19), 3) := by decide +kernel
theorem dX3_digest_28 : decode cX3_digest 28 = .ok (.aload_n 0, 1) := by decide +kernel
theorem dX3_digest_29 : decode cX3_digest 29 = .ok (.getfield 12, 3) := by decide +kernel
theorem dX3_digest_32 : decode cX3_digest 32 = .ok (.lload_n 1, 1) := by decide +kernel
theorem dX3_digest_33 : decode cX3_digest 33 = .ok (.invokevirtual 176, 3) := by decide +kernel
theorem dX3_digest_36 : decode cX3_digest 36 = .ok (.lstore_n 1, 1) := by decide +kernel
theorem dX3_digest_37 : decode cX3_digest 37 = .ok (.iconst 0, 1) := by decide +kernel
theorem dX3_digest_38 : decode cX3_digest 38 = .ok (.istore_n 3, 1) := by decide +kernel
theorem dX3_digest_39 : decode cX3_digest 39 = .ok (.iload_n 3, 1) := by decide +kernel
theorem dX3_digest_40 : decode cX3_digest 40 = .ok (.aload_n 0, 1) := by decide +kernel
theorem dX3_digest_41 : decode cX3_digest 41 = .ok (.getfield 73, 3) := by decide +kernel
theorem dX3_digest_44 : decode cX3_digest 44 = .ok (.if_icmp .ge 16, 3) := by decide +kernel
theorem dX3_digest_47 : decode cX3_digest 47 = .ok (.aload_n 0, 1) := by decide +kernel
theorem dX3_digest_48 : decode cX3_digest 48 = .ok (.lload_n 1, 1) := by decide +kernel
theorem dX3_digest_49 : decode cX3_digest 49 = .ok (.iload_n 3, 1) := by decide +kernel
theorem dX3_digest_50 : decode cX3_digest 50 = .ok (.invokevirtual 180, 3) := by decide +kernel
theorem dX3_digest_53 : decode cX3_digest 53 = .ok (.lstore_n 1, 1) := by decide +kernel
theorem dX3_digest_54 : decode cX3_digest 54 = .ok (.iinc 3 1, 3) := by decide +kernel
theorem dX3_digest_57 : decode cX3_digest 57 = .ok (.goto (-18), 3) := by decide +kernel
theorem dX3_digest_60 : decode cX3_digest 60 = .ok (.aload_n 0, 1) := by decide +kernel
theorem dX3_digest_61 : decode cX3_digest 61 = .ok (.getfield 27, 3) := by decide +kernel
theorem dX3_digest_64 : decode cX3_digest 64 = .ok (.astore_n 3, 1) := by decide +kernel
theorem dX3_digest_65 : decode cX3_digest 65 = .ok (.aload_n 3, 1) := by decide +kernel
theorem dX3_digest_66 : decode cX3_digest 66 = .ok (.arraylength, 1) := by decide +kernel
theorem dX3_digest_67 : decode cX3_digest 67 = .ok (.istore 4, 2) := by decide +kernel
theorem dX3_digest_69 : decode cX3_digest 69 = .ok (.iconst 0, 1) := by decide +kernel
theorem dX3_digest_70 : decode cX3_digest 70 = .ok (.istore 5, 2) := by decide +kernel
theorem dX3_digest_72 : decode cX3_digest 72 = .ok (.iload 5, 2) := by decide +kernel
theorem dX3_digest_74 : decode cX3_digest 74 = .ok (.iload 4, 2) := by decide +kernel
theorem dX3_digest_76 : decode cX3_digest 76 = .ok (.if_icmp .ge 38, 3) := by decide +kernel
theorem dX3_digest_79 : decode cX3_digest 79 = .ok (.aload_n 3, 1) := by decide +kernel
theorem dX3_digest_80 : decode cX3_digest 80 = .ok (.iload 5, 2) := by decide +kernel
theorem dX3_digest_82 : decode cX3_digest 82 = .ok (.aaload, 1) := by decide +kernel
theorem dX3_digest_83 : decode cX3_digest 83 = .ok (.astore 6, 2) := by decide +kernel
theorem dX3_digest_85 : decode cX3_digest 85 = .ok (.aload 6, 2) := by decide +kernel
theorem dX3_digest_87 : decode cX3_digest 87 = .ok (.ifnull 21, 3) := by decide +kernel
theorem dX3_digest_90 : decode cX3_digest 90 = .ok (.lload_n 1, 1) := by decide +kernel
theorem dX3_digest_91 : decode cX3_digest 91 = .ok (.aload 6, 2) := by decide +kernel
theorem dX3_digest_93 : decode cX3_digest 93 = .ok (.getfield 138, 3) := by decide +kernel
theorem dX3_digest_96 : decode cX3_digest 96 = .ok (.invokestatic 172, 3) := by decide +kernel
theorem dX3_digest_99 : decode cX3_digest 99 = .ok (.aload 6, 2) := by decide +kernel
theorem dX3_digest_101 : decode cX3_digest 101 = .ok (.getfield 150, 3) := by decide +kernel
theorem dX3_digest_104 : decode cX3_digest 104 = .ok (.invokestatic 172, 3) := by decide +kernel
theorem dX3_digest_107 : decode cX3_digest 107 = .ok (.lstore_n 1, 1) := by decide +kernel
theorem dX3_digest_108 : decode cX3_digest 108 = .ok (.iinc 5 1, 3) := by decide +kernel
theorem dX3_digest_111 : decode cX3_digest 111 = .ok (.goto (-39), 3) := by decide +kernel
theorem dX3_digest_114 : decode cX3_digest 114 = .ok (.lload_n 1, 1) := by decide +kernel
theorem dX3_digest_115 : decode cX3_digest 115 = .ok (.lreturn, 1) := by decide +kernel
set_option maxRecDepth 20000 in
theorem ggX3_watcherMixedInto_X3_watcher : GoodIn wsX3_watcherMixedInto wsX3_watcher := goodIn_ca (goodIn_r _ [5, 6, 7, 8, 9, 10, 11, 4, 12, 13, 14, 15, 16, 17, 18, 19, 20, 21, 22, 23, 24, 25, 26, 27, 28, 29, 30, 31, 32, 33, 34, 35, 36, 37, 38, 39, 40, 41, 42, 43, 44, 45, 46, 55, 56, 57, 58, 59, 60, 61, 62, 63, 64, 65, 66, 67, 68, 69, 70] (by decide +kernel) (by decide +kernel)) (goodIn_sub (fun _ h => List.mem_cons_of_mem _ (List.mem_append_right _ h)) (by decide +kernel))
set_option maxRecDepth 20000 in
theorem gX3_watcherMixedInto_X3_watcher : GoodIn wsX3_watcherMixedInto (wsV RX3 183 RX3 yX3_watcher wsX3_watcher) := goodIn_app (goodIn_of _ (by decide +kernel)) ggX3_watcherMixedInto_X3_watcher
set_option maxRecDepth 20000 in
theorem ggX3_watcherMixedInto_X3_mixed : GoodIn wsX3_watcherMixedInto wsX3_mixed := goodIn_r _ [49, 50] (by decide +kernel) (by decide +kernel)
set_option maxRecDepth 20000 in
theorem gX3_watcherMixedInto_X3_mixed : GoodIn wsX3_watcherMixedInto (va_wsS RX3 172 yX3_mixed wsX3_mixed) := goodIn_app (goodIn_of _ (by decide +kernel)) ggX3_watcherMixedInto_X3_mixed
set_option maxRecDepth 20000 in
theorem ggX3_watcherMixedInto_X3_watcherOf : GoodIn wsX3_watcherMixedInto wsX3_watcherOf := goodIn_ca (goodIn_r _ [12, 6, 7, 13, 59, 60, 61, 62, 63, 64, 65, 66, 67, 68] (by decide +kernel) (by decide +kernel)) (goodIn_sub (fun _ h => List.mem_cons_of_mem _ (List.mem_append_right _ h)) (by decide +kernel))
set_option maxRecDepth 20000 in
theorem gX3_watcherMixedInto_X3_watcherOf : GoodIn wsX3_watcherMixedInto (wsV RX3 86 RX3 yX3_watcherOf wsX3_watcherOf) := goodIn_app (goodIn_of _ (by decide +kernel)) ggX3_watcherMixedInto_X3_watcherOf
set_option maxRecDepth 20000 in
theorem ggX3_watcherMixedInto_X1_mixedInto : GoodIn wsX3_watcherMixedInto wsX1_mixedInto := goodIn_r _ [54, 25, 48, 4, 49, 50, 69, 70] (by decide +kernel) (by decide +kernel)
set_option maxRecDepth 20000 in
theorem gX3_watcherMixedInto_X1_mixedInto : GoodIn wsX3_watcherMixedInto (wsV RX3 176 RX1 yX1_mixedInto wsX1_mixedInto) := goodIn_app (goodIn_of _ (by decide +kernel)) ggX3_watcherMixedInto_X1_mixedInto
theorem dX3_watcherMixedInto_0 : decode cX3_watcherMixedInto 0 = .ok (.lload_n 1, 1) := by decide +kernel
theorem dX3_watcherMixedInto_1 : decode cX3_watcherMixedInto 1 = .ok (.lstore 4, 2) := by decide +kernel
theorem dX3_watcherMixedInto_3 : decode cX3_watcherMixedInto 3 = .ok (.iconst 0, 1) := by decide +kernel
theorem dX3_watcherMixedInto_4 : decode cX3_watcherMixedInto 4 = .ok (.istore 6, 2) := by decide +kernel
theorem dX3_watcherMixedInto_6 : decode cX3_watcherMixedInto 6 = .ok (.iload 6, 2) := by decide +kernel
theorem dX3_watcherMixedInto_8 : decode cX3_watcherMixedInto 8 = .ok (.bipush 6, 2) := by decide +kernel
theorem dX3_watcherMixedInto_10 : decode cX3_watcherMixedInto 10 = .ok (.if_icmp .ge 23, 3) := by decide +kernel
theorem dX3_watcherMixedInto_13 : decode cX3_watcherMixedInto 13 = .ok (.lload 4, 2) := by decide +kernel
theorem dX3_watcherMixedInto_15 : decode cX3_watcherMixedInto 15 = .ok (.aload_n 0, 1) := by decide +kernel
theorem dX3_watcherMixedInto_16 : decode cX3_watcherMixedInto 16 = .ok (.iload_n 3, 1) := by decide +kernel
theorem dX3_watcherMixedInto_17 : decode cX3_watcherMixedInto 17 = .ok (.iload 6, 2) := by decide +kernel
theorem dX3_watcherMixedInto_19 : decode cX3_watcherMixedInto 19 = .ok (.invokevirtual 183, 3) := by decide +kernel
theorem dX3_watcherMixedInto_22 : decode cX3_watcherMixedInto 22 = .ok (.invokestatic 172, 3) := by decide +kernel
theorem dX3_watcherMixedInto_25 : decode cX3_watcherMixedInto 25 = .ok (.lstore 4, 2) := by decide +kernel
theorem dX3_watcherMixedInto_27 : decode cX3_watcherMixedInto 27 = .ok (.iinc 6 1, 3) := by decide +kernel
theorem dX3_watcherMixedInto_30 : decode cX3_watcherMixedInto 30 = .ok (.goto (-24), 3) := by decide +kernel
theorem dX3_watcherMixedInto_33 : decode cX3_watcherMixedInto 33 = .ok (.aload_n 0, 1) := by decide +kernel
theorem dX3_watcherMixedInto_34 : decode cX3_watcherMixedInto 34 = .ok (.iload_n 3, 1) := by decide +kernel
theorem dX3_watcherMixedInto_35 : decode cX3_watcherMixedInto 35 = .ok (.invokevirtual 86, 3) := by decide +kernel
theorem dX3_watcherMixedInto_38 : decode cX3_watcherMixedInto 38 = .ok (.getfield 93, 3) := by decide +kernel
theorem dX3_watcherMixedInto_41 : decode cX3_watcherMixedInto 41 = .ok (.lload 4, 2) := by decide +kernel
theorem dX3_watcherMixedInto_43 : decode cX3_watcherMixedInto 43 = .ok (.invokevirtual 176, 3) := by decide +kernel
theorem dX3_watcherMixedInto_46 : decode cX3_watcherMixedInto 46 = .ok (.lreturn, 1) := by decide +kernel
theorem dX3_mixed_0 : decode cX3_mixed 0 = .ok (.lload_n 0, 1) := by decide +kernel
theorem dX3_mixed_1 : decode cX3_mixed 1 = .ok (.ldc2_w 186, 3) := by decide +kernel
theorem dX3_mixed_4 : decode cX3_mixed 4 = .ok (.lmul, 1) := by decide +kernel
theorem dX3_mixed_5 : decode cX3_mixed 5 = .ok (.iload_n 2, 1) := by decide +kernel
theorem dX3_mixed_6 : decode cX3_mixed 6 = .ok (.i2l, 1) := by decide +kernel
theorem dX3_mixed_7 : decode cX3_mixed 7 = .ok (.ladd, 1) := by decide +kernel
theorem dX3_mixed_8 : decode cX3_mixed 8 = .ok (.lreturn, 1) := by decide +kernel
theorem dX3_watcherOf_0 : decode cX3_watcherOf 0 = .ok (.iload_n 1, 1) := by decide +kernel
theorem dX3_watcherOf_1 : decode cX3_watcherOf 1 = .ok (.ifCond .lt 21, 3) := by decide +kernel
theorem dX3_watcherOf_4 : decode cX3_watcherOf 4 = .ok (.iload_n 1, 1) := by decide +kernel
theorem dX3_watcherOf_5 : decode cX3_watcherOf 5 = .ok (.aload_n 0, 1) := by decide +kernel
theorem dX3_watcherOf_6 : decode cX3_watcherOf 6 = .ok (.getfield 21, 3) := by decide +kernel
theorem dX3_watcherOf_9 : decode cX3_watcherOf 9 = .ok (.arraylength, 1) := by decide +kernel
theorem dX3_watcherOf_10 : decode cX3_watcherOf 10 = .ok (.if_icmp .ge 12, 3) := by decide +kernel
theorem dX3_watcherOf_13 : decode cX3_watcherOf 13 = .ok (.aload_n 0, 1) := by decide +kernel
theorem dX3_watcherOf_14 : decode cX3_watcherOf 14 = .ok (.getfield 21, 3) := by decide +kernel
theorem dX3_watcherOf_17 : decode cX3_watcherOf 17 = .ok (.iload_n 1, 1) := by decide +kernel
theorem dX3_watcherOf_18 : decode cX3_watcherOf 18 = .ok (.aaload, 1) := by decide +kernel
theorem dX3_watcherOf_19 : decode cX3_watcherOf 19 = .ok (.goto 4, 3) := by decide +kernel
theorem dX3_watcherOf_22 : decode cX3_watcherOf 22 = .ok (.aconst_null, 1) := by decide +kernel
theorem dX3_watcherOf_23 : decode cX3_watcherOf 23 = .ok (.astore_n 2, 1) := by decide +kernel
theorem dX3_watcherOf_24 : decode cX3_watcherOf 24 = .ok (.aload_n 2, 1) := by decide +kernel
theorem dX3_watcherOf_25 : decode cX3_watcherOf 25 = .ok (.ifnonnull 13, 3) := by decide +kernel
theorem dX3_watcherOf_28 : decode cX3_watcherOf 28 = .ok (.new 116, 3) := by decide +kernel
theorem dX3_watcherOf_31 : decode cX3_watcherOf 31 = .ok (.dup, 1) := by decide +kernel
theorem dX3_watcherOf_32 : decode cX3_watcherOf 32 = .ok (.ldc 188, 2) := by decide +kernel
theorem dX3_watcherOf_34 : decode cX3_watcherOf 34 = .ok (.invokespecial 120, 3) := by decide +kernel
theorem dX3_watcherOf_37 : decode cX3_watcherOf 37 = .ok (.athrow, 1) := by decide +kernel
theorem dX3_watcherOf_38 : decode cX3_watcherOf 38 = .ok (.aload_n 2, 1) := by decide +kernel
theorem dX3_watcherOf_39 : decode cX3_watcherOf 39 = .ok (.areturn, 1) := by decide +kernel
theorem dX3_playerOf_0 : decode cX3_playerOf 0 = .ok (.iload_n 1, 1) := by decide +kernel
theorem dX3_playerOf_1 : decode cX3_playerOf 1 = .ok (.ifCond .lt 21, 3) := by decide +kernel
theorem dX3_playerOf_4 : decode cX3_playerOf 4 = .ok (.iload_n 1, 1) := by decide +kernel
theorem dX3_playerOf_5 : decode cX3_playerOf 5 = .ok (.aload_n 0, 1) := by decide +kernel
theorem dX3_playerOf_6 : decode cX3_playerOf 6 = .ok (.getfield 27, 3) := by decide +kernel
theorem dX3_playerOf_9 : decode cX3_playerOf 9 = .ok (.arraylength, 1) := by decide +kernel
theorem dX3_playerOf_10 : decode cX3_playerOf 10 = .ok (.if_icmp .ge 12, 3) := by decide +kernel
theorem dX3_playerOf_13 : decode cX3_playerOf 13 = .ok (.aload_n 0, 1) := by decide +kernel
theorem dX3_playerOf_14 : decode cX3_playerOf 14 = .ok (.getfield 27, 3) := by decide +kernel
theorem dX3_playerOf_17 : decode cX3_playerOf 17 = .ok (.iload_n 1, 1) := by decide +kernel
theorem dX3_playerOf_18 : decode cX3_playerOf 18 = .ok (.aaload, 1) := by decide +kernel
theorem dX3_playerOf_19 : decode cX3_playerOf 19 = .ok (.goto 4, 3) := by decide +kernel
theorem dX3_playerOf_22 : decode cX3_playerOf 22 = .ok (.aconst_null, 1) := by decide +kernel
theorem dX3_playerOf_23 : decode cX3_playerOf 23 = .ok (.astore_n 2, 1) := by decide +kernel
theorem dX3_playerOf_24 : decode cX3_playerOf 24 = .ok (.aload_n 2, 1) := by decide +kernel
theorem dX3_playerOf_25 : decode cX3_playerOf 25 = .ok (.ifnonnull 13, 3) := by decide +kernel
theorem dX3_playerOf_28 : decode cX3_playerOf 28 = .ok (.new 116, 3) := by decide +kernel
theorem dX3_playerOf_31 : decode cX3_playerOf 31 = .ok (.dup, 1) := by decide +kernel
theorem dX3_playerOf_32 : decode cX3_playerOf 32 = .ok (.ldc 190, 2) := by decide +kernel
theorem dX3_playerOf_34 : decode cX3_playerOf 34 = .ok (.invokespecial 120, 3) := by decide +kernel
theorem dX3_playerOf_37 : decode cX3_playerOf 37 = .ok (.athrow, 1) := by decide +kernel
theorem dX3_playerOf_38 : decode cX3_playerOf 38 = .ok (.aload_n 2, 1) := by decide +kernel
theorem dX3_playerOf_39 : decode cX3_playerOf 39 = .ok (.areturn, 1) := by decide +kernel
set_option maxRecDepth 20000 in
theorem ggX3_requireWay_X3_isWay : GoodIn wsX3_requireWay wsX3_isWay := goodIn_r _ [6] (by decide +kernel) (by decide +kernel)
set_option maxRecDepth 20000 in
theorem gX3_requireWay_X3_isWay : GoodIn wsX3_requireWay (va_wsS RX3 192 yX3_isWay wsX3_isWay) := goodIn_app (goodIn_of _ (by decide +kernel)) ggX3_requireWay_X3_isWay
theorem dX3_requireWay_0 : decode cX3_requireWay 0 = .ok (.iload_n 0, 1) := by decide +kernel
theorem dX3_requireWay_1 : decode cX3_requireWay 1 = .ok (.iload_n 1, 1) := by decide +kernel
theorem dX3_requireWay_2 : decode cX3_requireWay 2 = .ok (.invokestatic 192, 3) := by decide +kernel
theorem dX3_requireWay_5 : decode cX3_requireWay 5 = .ok (.ifCond .ne 13, 3) := by decide +kernel
theorem dX3_requireWay_8 : decode cX3_requireWay 8 = .ok (.new 196, 3) := by decide +kernel
theorem dX3_requireWay_11 : decode cX3_requireWay 11 = .ok (.dup, 1) := by decide +kernel
theorem dX3_requireWay_12 : decode cX3_requireWay 12 = .ok (.ldc 198, 2) := by decide +kernel
theorem dX3_requireWay_14 : decode cX3_requireWay 14 = .ok (.invokespecial 200, 3) := by decide +kernel
theorem dX3_requireWay_17 : decode cX3_requireWay 17 = .ok (.athrow, 1) := by decide +kernel
theorem dX3_requireWay_18 : decode cX3_requireWay 18 = .ok (.return_, 1) := by decide +kernel
set_option maxRecDepth 20000 in
theorem ggX3_requirePlace_X3_isSixteenth : GoodIn wsX3_requirePlace wsX3_isSixteenth := goodIn_r _ [6] (by decide +kernel) (by decide +kernel)
set_option maxRecDepth 20000 in
theorem gX3_requirePlace_X3_isSixteenth : GoodIn wsX3_requirePlace (va_wsS RX3 201 yX3_isSixteenth wsX3_isSixteenth) := goodIn_app (goodIn_of _ (by decide +kernel)) ggX3_requirePlace_X3_isSixteenth
theorem dX3_requirePlace_0 : decode cX3_requirePlace 0 = .ok (.iload_n 0, 1) := by decide +kernel
theorem dX3_requirePlace_1 : decode cX3_requirePlace 1 = .ok (.invokestatic 201, 3) := by decide +kernel
theorem dX3_requirePlace_4 : decode cX3_requirePlace 4 = .ok (.ifCond .ne 13, 3) := by decide +kernel
theorem dX3_requirePlace_7 : decode cX3_requirePlace 7 = .ok (.new 116, 3) := by decide +kernel
theorem dX3_requirePlace_10 : decode cX3_requirePlace 10 = .ok (.dup, 1) := by decide +kernel
theorem dX3_requirePlace_11 : decode cX3_requirePlace 11 = .ok (.ldc 205, 2) := by decide +kernel
theorem dX3_requirePlace_13 : decode cX3_requirePlace 13 = .ok (.invokespecial 120, 3) := by decide +kernel
theorem dX3_requirePlace_16 : decode cX3_requirePlace 16 = .ok (.athrow, 1) := by decide +kernel
theorem dX3_requirePlace_17 : decode cX3_requirePlace 17 = .ok (.return_, 1) := by decide +kernel
set_option maxRecDepth 20000 in
theorem ggX3_requireCard_X3_isSixteenth : GoodIn wsX3_requireCard wsX3_isSixteenth := goodIn_r _ [6] (by decide +kernel) (by decide +kernel)
set_option maxRecDepth 20000 in
theorem gX3_requireCard_X3_isSixteenth : GoodIn wsX3_requireCard (va_wsS RX3 201 yX3_isSixteenth wsX3_isSixteenth) := goodIn_app (goodIn_of _ (by decide +kernel)) ggX3_requireCard_X3_isSixteenth
theorem dX3_requireCard_0 : decode cX3_requireCard 0 = .ok (.iload_n 0, 1) := by decide +kernel
theorem dX3_requireCard_1 : decode cX3_requireCard 1 = .ok (.invokestatic 201, 3) := by decide +kernel
theorem dX3_requireCard_4 : decode cX3_requireCard 4 = .ok (.ifCond .ne 13, 3) := by decide +kernel
theorem dX3_requireCard_7 : decode cX3_requireCard 7 = .ok (.new 116, 3) := by decide +kernel
theorem dX3_requireCard_10 : decode cX3_requireCard 10 = .ok (.dup, 1) := by decide +kernel
theorem dX3_requireCard_11 : decode cX3_requireCard 11 = .ok (.ldc 207, 2) := by decide +kernel
theorem dX3_requireCard_13 : decode cX3_requireCard 13 = .ok (.invokespecial 120, 3) := by decide +kernel
theorem dX3_requireCard_16 : decode cX3_requireCard 16 = .ok (.athrow, 1) := by decide +kernel
theorem dX3_requireCard_17 : decode cX3_requireCard 17 = .ok (.return_, 1) := by decide +kernel
set_option maxRecDepth 20000 in
theorem ggX3_requireSixteenth_X3_isSixteenth : GoodIn wsX3_requireSixteenth wsX3_isSixteenth := goodIn_r _ [6] (by decide +kernel) (by decide +kernel)
set_option maxRecDepth 20000 in
theorem gX3_requireSixteenth_X3_isSixteenth : GoodIn wsX3_requireSixteenth (va_wsS RX3 201 yX3_isSixteenth wsX3_isSixteenth) := goodIn_app (goodIn_of _ (by decide +kernel)) ggX3_requireSixteenth_X3_isSixteenth
theorem dX3_requireSixteenth_0 : decode cX3_requireSixteenth 0 = .ok (.iload_n 0, 1) := by decide +kernel
theorem dX3_requireSixteenth_1 : decode cX3_requireSixteenth 1 = .ok (.invokestatic 201, 3) := by decide +kernel
theorem dX3_requireSixteenth_4 : decode cX3_requireSixteenth 4 = .ok (.ifCond .ne 13, 3) := by decide +kernel
theorem dX3_requireSixteenth_7 : decode cX3_requireSixteenth 7 = .ok (.new 196, 3) := by decide +kernel
theorem dX3_requireSixteenth_10 : decode cX3_requireSixteenth 10 = .ok (.dup, 1) := by decide +kernel
theorem dX3_requireSixteenth_11 : decode cX3_requireSixteenth 11 = .ok (.ldc 209, 2) := by decide +kernel
theorem dX3_requireSixteenth_13 : decode cX3_requireSixteenth 13 = .ok (.invokespecial 200, 3) := by decide +kernel
theorem dX3_requireSixteenth_16 : decode cX3_requireSixteenth 16 = .ok (.athrow, 1) := by decide +kernel
theorem dX3_requireSixteenth_17 : decode cX3_requireSixteenth 17 = .ok (.return_, 1) := by decide +kernel
theorem dX3_isSixteenth_0 : decode cX3_isSixteenth 0 = .ok (.iload_n 0, 1) := by decide +kernel
theorem dX3_isSixteenth_1 : decode cX3_isSixteenth 1 = .ok (.ifCond .lt 13, 3) := by decide +kernel
theorem dX3_isSixteenth_4 : decode cX3_isSixteenth 4 = .ok (.iload_n 0, 1) := by decide +kernel
theorem dX3_isSixteenth_5 : decode cX3_isSixteenth 5 = .ok (.bipush 16, 2) := by decide +kernel
theorem dX3_isSixteenth_7 : decode cX3_isSixteenth 7 = .ok (.if_icmp .ge 7, 3) := by decide +kernel
theorem dX3_isSixteenth_10 : decode cX3_isSixteenth 10 = .ok (.iconst 1, 1) := by decide +kernel
theorem dX3_isSixteenth_11 : decode cX3_isSixteenth 11 = .ok (.goto 4, 3) := by decide +kernel
theorem dX3_isSixteenth_14 : decode cX3_isSixteenth 14 = .ok (.iconst 0, 1) := by decide +kernel
theorem dX3_isSixteenth_15 : decode cX3_isSixteenth 15 = .ok (.ireturn, 1) := by decide +kernel
theorem dX3_isWay_0 : decode cX3_isWay 0 = .ok (.iload_n 0, 1) := by decide +kernel
theorem dX3_isWay_1 : decode cX3_isWay 1 = .ok (.tableswitch 79 0 4 #[35, 69, 69, 52, 69], 35) := by decide +kernel
theorem dX3_isWay_36 : decode cX3_isWay 36 = .ok (.iload_n 1, 1) := by decide +kernel
theorem dX3_isWay_37 : decode cX3_isWay 37 = .ok (.iconst 1, 1) := by decide +kernel
theorem dX3_isWay_38 : decode cX3_isWay 38 = .ok (.if_icmp .lt 13, 3) := by decide +kernel
theorem dX3_isWay_41 : decode cX3_isWay 41 = .ok (.iload_n 1, 1) := by decide +kernel
theorem dX3_isWay_42 : decode cX3_isWay 42 = .ok (.bipush 16, 2) := by decide +kernel
theorem dX3_isWay_44 : decode cX3_isWay 44 = .ok (.if_icmp .ge 7, 3) := by decide +kernel
theorem dX3_isWay_47 : decode cX3_isWay 47 = .ok (.iconst 1, 1) := by decide +kernel
theorem dX3_isWay_48 : decode cX3_isWay 48 = .ok (.goto 4, 3) := by decide +kernel
theorem dX3_isWay_51 : decode cX3_isWay 51 = .ok (.iconst 0, 1) := by decide +kernel
theorem dX3_isWay_52 : decode cX3_isWay 52 = .ok (.ireturn, 1) := by decide +kernel
theorem dX3_isWay_53 : decode cX3_isWay 53 = .ok (.iload_n 1, 1) := by decide +kernel
theorem dX3_isWay_54 : decode cX3_isWay 54 = .ok (.iconst 2, 1) := by decide +kernel
theorem dX3_isWay_55 : decode cX3_isWay 55 = .ok (.if_icmp .lt 13, 3) := by decide +kernel
theorem dX3_isWay_58 : decode cX3_isWay 58 = .ok (.iload_n 1, 1) := by decide +kernel
theorem dX3_isWay_59 : decode cX3_isWay 59 = .ok (.bipush 16, 2) := by decide +kernel
theorem dX3_isWay_61 : decode cX3_isWay 61 = .ok (.if_icmp .gt 7, 3) := by decide +kernel
theorem dX3_isWay_64 : decode cX3_isWay 64 = .ok (.iconst 1, 1) := by decide +kernel
theorem dX3_isWay_65 : decode cX3_isWay 65 = .ok (.goto 4, 3) := by decide +kernel
theorem dX3_isWay_68 : decode cX3_isWay 68 = .ok (.iconst 0, 1) := by decide +kernel
theorem dX3_isWay_69 : decode cX3_isWay 69 = .ok (.ireturn, 1) := by decide +kernel
theorem dX3_isWay_70 : decode cX3_isWay 70 = .ok (.iload_n 1, 1) := by decide +kernel
theorem dX3_isWay_71 : decode cX3_isWay 71 = .ok (.ifCond .ne 7, 3) := by decide +kernel
theorem dX3_isWay_74 : decode cX3_isWay 74 = .ok (.iconst 1, 1) := by decide +kernel
theorem dX3_isWay_75 : decode cX3_isWay 75 = .ok (.goto 4, 3) := by decide +kernel
theorem dX3_isWay_78 : decode cX3_isWay 78 = .ok (.iconst 0, 1) := by decide +kernel
theorem dX3_isWay_79 : decode cX3_isWay 79 = .ok (.ireturn, 1) := by decide +kernel
theorem dX3_isWay_80 : decode cX3_isWay 80 = .ok (.iconst 0, 1) := by decide +kernel
theorem dX3_isWay_81 : decode cX3_isWay 81 = .ok (.ireturn, 1) := by decide +kernel
set_option maxRecDepth 20000 in
theorem ggX3_placeAfter_X3_placeAfterDeal : GoodIn wsX3_placeAfter wsX3_placeAfterDeal := goodIn_r _ [4] (by decide +kernel) (by decide +kernel)
set_option maxRecDepth 20000 in
theorem gX3_placeAfter_X3_placeAfterDeal : GoodIn wsX3_placeAfter (va_wsS RX3 211 yX3_placeAfterDeal wsX3_placeAfterDeal) := goodIn_app (goodIn_of _ (by decide +kernel)) ggX3_placeAfter_X3_placeAfterDeal
theorem dX3_placeAfter_0 : decode cX3_placeAfter 0 = .ok (.iload_n 0, 1) := by decide +kernel
theorem dX3_placeAfter_1 : decode cX3_placeAfter 1 = .ok (.tableswitch 106 0 3 #[31, 49, 70, 91], 31) := by decide +kernel
theorem dX3_placeAfter_32 : decode cX3_placeAfter 32 = .ok (.iload_n 2, 1) := by decide +kernel
theorem dX3_placeAfter_33 : decode cX3_placeAfter 33 = .ok (.iload_n 1, 1) := by decide +kernel
theorem dX3_placeAfter_34 : decode cX3_placeAfter 34 = .ok (.if_icmp .ge 12, 3) := by decide +kernel
theorem dX3_placeAfter_37 : decode cX3_placeAfter 37 = .ok (.iload_n 2, 1) := by decide +kernel
theorem dX3_placeAfter_38 : decode cX3_placeAfter 38 = .ok (.bipush 16, 2) := by decide +kernel
theorem dX3_placeAfter_40 : decode cX3_placeAfter 40 = .ok (.iadd, 1) := by decide +kernel
theorem dX3_placeAfter_41 : decode cX3_placeAfter 41 = .ok (.iload_n 1, 1) := by decide +kernel
theorem dX3_placeAfter_42 : decode cX3_placeAfter 42 = .ok (.isub, 1) := by decide +kernel
theorem dX3_placeAfter_43 : decode cX3_placeAfter 43 = .ok (.goto 6, 3) := by decide +kernel
theorem dX3_placeAfter_46 : decode cX3_placeAfter 46 = .ok (.iload_n 2, 1) := by decide +kernel
theorem dX3_placeAfter_47 : decode cX3_placeAfter 47 = .ok (.iload_n 1, 1) := by decide +kernel
theorem dX3_placeAfter_48 : decode cX3_placeAfter 48 = .ok (.isub, 1) := by decide +kernel
theorem dX3_placeAfter_49 : decode cX3_placeAfter 49 = .ok (.ireturn, 1) := by decide +kernel
theorem dX3_placeAfter_50 : decode cX3_placeAfter 50 = .ok (.iload_n 2, 1) := by decide +kernel
theorem dX3_placeAfter_51 : decode cX3_placeAfter 51 = .ok (.bipush 8, 2) := by decide +kernel
theorem dX3_placeAfter_53 : decode cX3_placeAfter 53 = .ok (.if_icmp .ge 9, 3) := by decide +kernel
theorem dX3_placeAfter_56 : decode cX3_placeAfter 56 = .ok (.iconst 2, 1) := by decide +kernel
theorem dX3_placeAfter_57 : decode cX3_placeAfter 57 = .ok (.iload_n 2, 1) := by decide +kernel
theorem dX3_placeAfter_58 : decode cX3_placeAfter 58 = .ok (.imul, 1) := by decide +kernel
theorem dX3_placeAfter_59 : decode cX3_placeAfter 59 = .ok (.goto 11, 3) := by decide +kernel
theorem dX3_placeAfter_62 : decode cX3_placeAfter 62 = .ok (.iconst 2, 1) := by decide +kernel
theorem dX3_placeAfter_63 : decode cX3_placeAfter 63 = .ok (.iload_n 2, 1) := by decide +kernel
theorem dX3_placeAfter_64 : decode cX3_placeAfter 64 = .ok (.bipush 8, 2) := by decide +kernel
theorem dX3_placeAfter_66 : decode cX3_placeAfter 66 = .ok (.isub, 1) := by decide +kernel
theorem dX3_placeAfter_67 : decode cX3_placeAfter 67 = .ok (.imul, 1) := by decide +kernel
theorem dX3_placeAfter_68 : decode cX3_placeAfter 68 = .ok (.iconst 1, 1) := by decide +kernel
theorem dX3_placeAfter_69 : decode cX3_placeAfter 69 = .ok (.iadd, 1) := by decide +kernel
theorem dX3_placeAfter_70 : decode cX3_placeAfter 70 = .ok (.ireturn, 1) := by decide +kernel
theorem dX3_placeAfter_71 : decode cX3_placeAfter 71 = .ok (.iload_n 2, 1) := by decide +kernel
theorem dX3_placeAfter_72 : decode cX3_placeAfter 72 = .ok (.bipush 8, 2) := by decide +kernel
theorem dX3_placeAfter_74 : decode cX3_placeAfter 74 = .ok (.if_icmp .ge 11, 3) := by decide +kernel
theorem dX3_placeAfter_77 : decode cX3_placeAfter 77 = .ok (.iconst 2, 1) := by decide +kernel
theorem dX3_placeAfter_78 : decode cX3_placeAfter 78 = .ok (.iload_n 2, 1) := by decide +kernel
theorem dX3_placeAfter_79 : decode cX3_placeAfter 79 = .ok (.imul, 1) := by decide +kernel
theorem dX3_placeAfter_80 : decode cX3_placeAfter 80 = .ok (.iconst 1, 1) := by decide +kernel
theorem dX3_placeAfter_81 : decode cX3_placeAfter 81 = .ok (.iadd, 1) := by decide +kernel
theorem dX3_placeAfter_82 : decode cX3_placeAfter 82 = .ok (.goto 9, 3) := by decide +kernel
theorem dX3_placeAfter_85 : decode cX3_placeAfter 85 = .ok (.iconst 2, 1) := by decide +kernel
theorem dX3_placeAfter_86 : decode cX3_placeAfter 86 = .ok (.iload_n 2, 1) := by decide +kernel
theorem dX3_placeAfter_87 : decode cX3_placeAfter 87 = .ok (.bipush 8, 2) := by decide +kernel
theorem dX3_placeAfter_89 : decode cX3_placeAfter 89 = .ok (.isub, 1) := by decide +kernel
theorem dX3_placeAfter_90 : decode cX3_placeAfter 90 = .ok (.imul, 1) := by decide +kernel
theorem dX3_placeAfter_91 : decode cX3_placeAfter 91 = .ok (.ireturn, 1) := by decide +kernel
theorem dX3_placeAfter_92 : decode cX3_placeAfter 92 = .ok (.iload_n 2, 1) := by decide +kernel
theorem dX3_placeAfter_93 : decode cX3_placeAfter 93 = .ok (.iload_n 1, 1) := by decide +kernel
theorem dX3_placeAfter_94 : decode cX3_placeAfter 94 = .ok (.if_icmp .ge 11, 3) := by decide +kernel
theorem dX3_placeAfter_97 : decode cX3_placeAfter 97 = .ok (.iload_n 1, 1) := by decide +kernel
theorem dX3_placeAfter_98 : decode cX3_placeAfter 98 = .ok (.iconst 1, 1) := by decide +kernel
theorem dX3_placeAfter_99 : decode cX3_placeAfter 99 = .ok (.isub, 1) := by decide +kernel
theorem dX3_placeAfter_100 : decode cX3_placeAfter 100 = .ok (.iload_n 2, 1) := by decide +kernel
theorem dX3_placeAfter_101 : decode cX3_placeAfter 101 = .ok (.isub, 1) := by decide +kernel
theorem dX3_placeAfter_102 : decode cX3_placeAfter 102 = .ok (.goto 4, 3) := by decide +kernel
theorem dX3_placeAfter_105 : decode cX3_placeAfter 105 = .ok (.iload_n 2, 1) := by decide +kernel
theorem dX3_placeAfter_106 : decode cX3_placeAfter 106 = .ok (.ireturn, 1) := by decide +kernel
theorem dX3_placeAfter_107 : decode cX3_placeAfter 107 = .ok (.iload_n 2, 1) := by decide +kernel
theorem dX3_placeAfter_108 : decode cX3_placeAfter 108 = .ok (.invokestatic 211, 3) := by decide +kernel
theorem dX3_placeAfter_111 : decode cX3_placeAfter 111 = .ok (.ireturn, 1) := by decide +kernel
theorem dX3_placeAfterDeal_0 : decode cX3_placeAfterDeal 0 = .ok (.iload_n 0, 1) := by decide +kernel
theorem dX3_placeAfterDeal_1 : decode cX3_placeAfterDeal 1 = .ok (.istore_n 1, 1) := by decide +kernel
theorem dX3_placeAfterDeal_2 : decode cX3_placeAfterDeal 2 = .ok (.iconst 0, 1) := by decide +kernel
theorem dX3_placeAfterDeal_3 : decode cX3_placeAfterDeal 3 = .ok (.istore_n 2, 1) := by decide +kernel
theorem dX3_placeAfterDeal_4 : decode cX3_placeAfterDeal 4 = .ok (.bipush 16, 2) := by decide +kernel
theorem dX3_placeAfterDeal_6 : decode cX3_placeAfterDeal 6 = .ok (.istore_n 3, 1) := by decide +kernel
theorem dX3_placeAfterDeal_7 : decode cX3_placeAfterDeal 7 = .ok (.iload_n 3, 1) := by decide +kernel
theorem dX3_placeAfterDeal_8 : decode cX3_placeAfterDeal 8 = .ok (.iconst 1, 1) := by decide +kernel
theorem dX3_placeAfterDeal_9 : decode cX3_placeAfterDeal 9 = .ok (.if_icmp .le 26, 3) := by decide +kernel
theorem dX3_placeAfterDeal_12 : decode cX3_placeAfterDeal 12 = .ok (.iload_n 1, 1) := by decide +kernel
theorem dX3_placeAfterDeal_13 : decode cX3_placeAfterDeal 13 = .ok (.iconst 2, 1) := by decide +kernel
theorem dX3_placeAfterDeal_14 : decode cX3_placeAfterDeal 14 = .ok (.irem, 1) := by decide +kernel
theorem dX3_placeAfterDeal_15 : decode cX3_placeAfterDeal 15 = .ok (.ifCond .ne 20, 3) := by decide +kernel
theorem dX3_placeAfterDeal_18 : decode cX3_placeAfterDeal 18 = .ok (.iload_n 2, 1) := by decide +kernel
theorem dX3_placeAfterDeal_19 : decode cX3_placeAfterDeal 19 = .ok (.iload_n 3, 1) := by decide +kernel
theorem dX3_placeAfterDeal_20 : decode cX3_placeAfterDeal 20 = .ok (.iconst 2, 1) := by decide +kernel
theorem dX3_placeAfterDeal_21 : decode cX3_placeAfterDeal 21 = .ok (.idiv, 1) := by decide +kernel
theorem dX3_placeAfterDeal_22 : decode cX3_placeAfterDeal 22 = .ok (.iadd, 1) := by decide +kernel
theorem dX3_placeAfterDeal_23 : decode cX3_placeAfterDeal 23 = .ok (.istore_n 2, 1) := by decide +kernel
theorem dX3_placeAfterDeal_24 : decode cX3_placeAfterDeal 24 = .ok (.iload_n 1, 1) := by decide +kernel
theorem dX3_placeAfterDeal_25 : decode cX3_placeAfterDeal 25 = .ok (.iconst 2, 1) := by decide +kernel
theorem dX3_placeAfterDeal_26 : decode cX3_placeAfterDeal 26 = .ok (.idiv, 1) := by decide +kernel
theorem dX3_placeAfterDeal_27 : decode cX3_placeAfterDeal 27 = .ok (.istore_n 1, 1) := by decide +kernel
theorem dX3_placeAfterDeal_28 : decode cX3_placeAfterDeal 28 = .ok (.iload_n 3, 1) := by decide +kernel
theorem dX3_placeAfterDeal_29 : decode cX3_placeAfterDeal 29 = .ok (.iconst 2, 1) := by decide +kernel
theorem dX3_placeAfterDeal_30 : decode cX3_placeAfterDeal 30 = .ok (.idiv, 1) := by decide +kernel
theorem dX3_placeAfterDeal_31 : decode cX3_placeAfterDeal 31 = .ok (.istore_n 3, 1) := by decide +kernel
theorem dX3_placeAfterDeal_32 : decode cX3_placeAfterDeal 32 = .ok (.goto (-25), 3) := by decide +kernel
theorem dX3_placeAfterDeal_35 : decode cX3_placeAfterDeal 35 = .ok (.bipush 15, 2) := by decide +kernel
theorem dX3_placeAfterDeal_37 : decode cX3_placeAfterDeal 37 = .ok (.iload_n 2, 1) := by decide +kernel
theorem dX3_placeAfterDeal_38 : decode cX3_placeAfterDeal 38 = .ok (.isub, 1) := by decide +kernel
theorem dX3_placeAfterDeal_39 : decode cX3_placeAfterDeal 39 = .ok (.iload_n 1, 1) := by decide +kernel
theorem dX3_placeAfterDeal_40 : decode cX3_placeAfterDeal 40 = .ok (.iconst 2, 1) := by decide +kernel
theorem dX3_placeAfterDeal_41 : decode cX3_placeAfterDeal 41 = .ok (.idiv, 1) := by decide +kernel
theorem dX3_placeAfterDeal_42 : decode cX3_placeAfterDeal 42 = .ok (.isub, 1) := by decide +kernel
theorem dX3_placeAfterDeal_43 : decode cX3_placeAfterDeal 43 = .ok (.ireturn, 1) := by decide +kernel
set_option maxRecDepth 20000 in
theorem ggX3_placeAfterRiffles_X3_placeAfter : GoodIn wsX3_placeAfterRiffles wsX3_placeAfter := goodIn_r _ [4, 5, 6, 3, 7] (by decide +kernel) (by decide +kernel)
set_option maxRecDepth 20000 in
theorem gX3_placeAfterRiffles_X3_placeAfter : GoodIn wsX3_placeAfterRiffles (va_wsS RX3 63 yX3_placeAfter wsX3_placeAfter) := goodIn_app (goodIn_of _ (by decide +kernel)) ggX3_placeAfterRiffles_X3_placeAfter
theorem dX3_placeAfterRiffles_0 : decode cX3_placeAfterRiffles 0 = .ok (.iload_n 0, 1) := by decide +kernel
theorem dX3_placeAfterRiffles_1 : decode cX3_placeAfterRiffles 1 = .ok (.istore_n 3, 1) := by decide +kernel
theorem dX3_placeAfterRiffles_2 : decode cX3_placeAfterRiffles 2 = .ok (.iload_n 2, 1) := by decide +kernel
theorem dX3_placeAfterRiffles_3 : decode cX3_placeAfterRiffles 3 = .ok (.iconst 1, 1) := by decide +kernel
theorem dX3_placeAfterRiffles_4 : decode cX3_placeAfterRiffles 4 = .ok (.isub, 1) := by decide +kernel
theorem dX3_placeAfterRiffles_5 : decode cX3_placeAfterRiffles 5 = .ok (.istore 4, 2) := by decide +kernel
theorem dX3_placeAfterRiffles_7 : decode cX3_placeAfterRiffles 7 = .ok (.iload 4, 2) := by decide +kernel
theorem dX3_placeAfterRiffles_9 : decode cX3_placeAfterRiffles 9 = .ok (.ifCond .lt 42, 3) := by decide +kernel
theorem dX3_placeAfterRiffles_12 : decode cX3_placeAfterRiffles 12 = .ok (.iload_n 1, 1) := by decide +kernel
theorem dX3_placeAfterRiffles_13 : decode cX3_placeAfterRiffles 13 = .ok (.iload 4, 2) := by decide +kernel
theorem dX3_placeAfterRiffles_15 : decode cX3_placeAfterRiffles 15 = .ok (.ishr, 1) := by decide +kernel
theorem dX3_placeAfterRiffles_16 : decode cX3_placeAfterRiffles 16 = .ok (.iconst 1, 1) := by decide +kernel
theorem dX3_placeAfterRiffles_17 : decode cX3_placeAfterRiffles 17 = .ok (.iand, 1) := by decide +kernel
theorem dX3_placeAfterRiffles_18 : decode cX3_placeAfterRiffles 18 = .ok (.iconst 1, 1) := by decide +kernel
theorem dX3_placeAfterRiffles_19 : decode cX3_placeAfterRiffles 19 = .ok (.if_icmp .ne 7, 3) := by decide +kernel
theorem dX3_placeAfterRiffles_22 : decode cX3_placeAfterRiffles 22 = .ok (.iconst 1, 1) := by decide +kernel
theorem dX3_placeAfterRiffles_23 : decode cX3_placeAfterRiffles 23 = .ok (.goto 4, 3) := by decide +kernel
theorem dX3_placeAfterRiffles_26 : decode cX3_placeAfterRiffles 26 = .ok (.iconst 0, 1) := by decide +kernel
theorem dX3_placeAfterRiffles_27 : decode cX3_placeAfterRiffles 27 = .ok (.istore 5, 2) := by decide +kernel
theorem dX3_placeAfterRiffles_29 : decode cX3_placeAfterRiffles 29 = .ok (.iload 5, 2) := by decide +kernel
theorem dX3_placeAfterRiffles_31 : decode cX3_placeAfterRiffles 31 = .ok (.ifCond .eq 7, 3) := by decide +kernel
theorem dX3_placeAfterRiffles_34 : decode cX3_placeAfterRiffles 34 = .ok (.iconst 2, 1) := by decide +kernel
theorem dX3_placeAfterRiffles_35 : decode cX3_placeAfterRiffles 35 = .ok (.goto 4, 3) := by decide +kernel
theorem dX3_placeAfterRiffles_38 : decode cX3_placeAfterRiffles 38 = .ok (.iconst 1, 1) := by decide +kernel
theorem dX3_placeAfterRiffles_39 : decode cX3_placeAfterRiffles 39 = .ok (.iconst 0, 1) := by decide +kernel
theorem dX3_placeAfterRiffles_40 : decode cX3_placeAfterRiffles 40 = .ok (.iload_n 3, 1) := by decide +kernel
theorem dX3_placeAfterRiffles_41 : decode cX3_placeAfterRiffles 41 = .ok (.invokestatic 63, 3) := by decide +kernel
theorem dX3_placeAfterRiffles_44 : decode cX3_placeAfterRiffles 44 = .ok (.istore_n 3, 1) := by decide +kernel
theorem dX3_placeAfterRiffles_45 : decode cX3_placeAfterRiffles 45 = .ok (.iinc 4 (-1), 3) := by decide +kernel
theorem dX3_placeAfterRiffles_48 : decode cX3_placeAfterRiffles 48 = .ok (.goto (-41), 3) := by decide +kernel
theorem dX3_placeAfterRiffles_51 : decode cX3_placeAfterRiffles 51 = .ok (.iload_n 3, 1) := by decide +kernel
theorem dX3_placeAfterRiffles_52 : decode cX3_placeAfterRiffles 52 = .ok (.ireturn, 1) := by decide +kernel
set_option maxRecDepth 20000 in
theorem ggX3_placesOneWayFrom_X3_setOf : GoodIn wsX3_placesOneWayFrom wsX3_setOf := goodIn_r _ [4] (by decide +kernel) (by decide +kernel)
set_option maxRecDepth 20000 in
theorem gX3_placesOneWayFrom_X3_setOf : GoodIn wsX3_placesOneWayFrom (va_wsS RX3 96 yX3_setOf wsX3_setOf) := goodIn_app (goodIn_of _ (by decide +kernel)) ggX3_placesOneWayFrom_X3_setOf
set_option maxRecDepth 20000 in
theorem ggX3_placesOneWayFrom_X3_placeAfter : GoodIn wsX3_placesOneWayFrom wsX3_placeAfter := goodIn_r _ [7, 8, 9, 3, 10] (by decide +kernel) (by decide +kernel)
set_option maxRecDepth 20000 in
theorem gX3_placesOneWayFrom_X3_placeAfter : GoodIn wsX3_placesOneWayFrom (va_wsS RX3 63 yX3_placeAfter wsX3_placeAfter) := goodIn_app (goodIn_of _ (by decide +kernel)) ggX3_placesOneWayFrom_X3_placeAfter
theorem dX3_placesOneWayFrom_0 : decode cX3_placesOneWayFrom 0 = .ok (.iconst 0, 1) := by decide +kernel
theorem dX3_placesOneWayFrom_1 : decode cX3_placesOneWayFrom 1 = .ok (.istore_n 1, 1) := by decide +kernel
theorem dX3_placesOneWayFrom_2 : decode cX3_placesOneWayFrom 2 = .ok (.iconst 0, 1) := by decide +kernel
theorem dX3_placesOneWayFrom_3 : decode cX3_placesOneWayFrom 3 = .ok (.istore_n 2, 1) := by decide +kernel
theorem dX3_placesOneWayFrom_4 : decode cX3_placesOneWayFrom 4 = .ok (.iload_n 2, 1) := by decide +kernel
theorem dX3_placesOneWayFrom_5 : decode cX3_placesOneWayFrom 5 = .ok (.bipush 16, 2) := by decide +kernel
theorem dX3_placesOneWayFrom_7 : decode cX3_placesOneWayFrom 7 = .ok (.if_icmp .ge 67, 3) := by decide +kernel
theorem dX3_placesOneWayFrom_10 : decode cX3_placesOneWayFrom 10 = .ok (.iload_n 0, 1) := by decide +kernel
theorem dX3_placesOneWayFrom_11 : decode cX3_placesOneWayFrom 11 = .ok (.iload_n 2, 1) := by decide +kernel
theorem dX3_placesOneWayFrom_12 : decode cX3_placesOneWayFrom 12 = .ok (.invokestatic 96, 3) := by decide +kernel
theorem dX3_placesOneWayFrom_15 : decode cX3_placesOneWayFrom 15 = .ok (.iand, 1) := by decide +kernel
theorem dX3_placesOneWayFrom_16 : decode cX3_placesOneWayFrom 16 = .ok (.ifCond .eq 52, 3) := by decide +kernel
theorem dX3_placesOneWayFrom_19 : decode cX3_placesOneWayFrom 19 = .ok (.iload_n 1, 1) := by decide +kernel
theorem dX3_placesOneWayFrom_20 : decode cX3_placesOneWayFrom 20 = .ok (.iconst 1, 1) := by decide +kernel
theorem dX3_placesOneWayFrom_21 : decode cX3_placesOneWayFrom 21 = .ok (.iconst 0, 1) := by decide +kernel
theorem dX3_placesOneWayFrom_22 : decode cX3_placesOneWayFrom 22 = .ok (.iload_n 2, 1) := by decide +kernel
theorem dX3_placesOneWayFrom_23 : decode cX3_placesOneWayFrom 23 = .ok (.invokestatic 63, 3) := by decide +kernel
theorem dX3_placesOneWayFrom_26 : decode cX3_placesOneWayFrom 26 = .ok (.invokestatic 96, 3) := by decide +kernel
theorem dX3_placesOneWayFrom_29 : decode cX3_placesOneWayFrom 29 = .ok (.ior, 1) := by decide +kernel
theorem dX3_placesOneWayFrom_30 : decode cX3_placesOneWayFrom 30 = .ok (.istore_n 1, 1) := by decide +kernel
theorem dX3_placesOneWayFrom_31 : decode cX3_placesOneWayFrom 31 = .ok (.iload_n 1, 1) := by decide +kernel
theorem dX3_placesOneWayFrom_32 : decode cX3_placesOneWayFrom 32 = .ok (.iconst 2, 1) := by decide +kernel
theorem dX3_placesOneWayFrom_33 : decode cX3_placesOneWayFrom 33 = .ok (.iconst 0, 1) := by decide +kernel
theorem dX3_placesOneWayFrom_34 : decode cX3_placesOneWayFrom 34 = .ok (.iload_n 2, 1) := by decide +kernel
theorem dX3_placesOneWayFrom_35 : decode cX3_placesOneWayFrom 35 = .ok (.invokestatic 63, 3) := by decide +kernel
theorem dX3_placesOneWayFrom_38 : decode cX3_placesOneWayFrom 38 = .ok (.invokestatic 96, 3) := by decide +kernel
theorem dX3_placesOneWayFrom_41 : decode cX3_placesOneWayFrom 41 = .ok (.ior, 1) := by decide +kernel
theorem dX3_placesOneWayFrom_42 : decode cX3_placesOneWayFrom 42 = .ok (.istore_n 1, 1) := by decide +kernel
theorem dX3_placesOneWayFrom_43 : decode cX3_placesOneWayFrom 43 = .ok (.iload_n 1, 1) := by decide +kernel
theorem dX3_placesOneWayFrom_44 : decode cX3_placesOneWayFrom 44 = .ok (.iconst 4, 1) := by decide +kernel
theorem dX3_placesOneWayFrom_45 : decode cX3_placesOneWayFrom 45 = .ok (.iconst 0, 1) := by decide +kernel
theorem dX3_placesOneWayFrom_46 : decode cX3_placesOneWayFrom 46 = .ok (.iload_n 2, 1) := by decide +kernel
theorem dX3_placesOneWayFrom_47 : decode cX3_placesOneWayFrom 47 = .ok (.invokestatic 63, 3) := by decide +kernel
theorem dX3_placesOneWayFrom_50 : decode cX3_placesOneWayFrom 50 = .ok (.invokestatic 96, 3) := by decide +kernel
theorem dX3_placesOneWayFrom_53 : decode cX3_placesOneWayFrom 53 = .ok (.ior, 1) := by decide +kernel
theorem dX3_placesOneWayFrom_54 : decode cX3_placesOneWayFrom 54 = .ok (.istore_n 1, 1) := by decide +kernel
theorem dX3_placesOneWayFrom_55 : decode cX3_placesOneWayFrom 55 = .ok (.iload_n 1, 1) := by decide +kernel
theorem dX3_placesOneWayFrom_56 : decode cX3_placesOneWayFrom 56 = .ok (.iconst 3, 1) := by decide +kernel
theorem dX3_placesOneWayFrom_57 : decode cX3_placesOneWayFrom 57 = .ok (.bipush 8, 2) := by decide +kernel
theorem dX3_placesOneWayFrom_59 : decode cX3_placesOneWayFrom 59 = .ok (.iload_n 2, 1) := by decide +kernel
theorem dX3_placesOneWayFrom_60 : decode cX3_placesOneWayFrom 60 = .ok (.invokestatic 63, 3) := by decide +kernel
theorem dX3_placesOneWayFrom_63 : decode cX3_placesOneWayFrom 63 = .ok (.invokestatic 96, 3) := by decide +kernel
theorem dX3_placesOneWayFrom_66 : decode cX3_placesOneWayFrom 66 = .ok (.ior, 1) := by decide +kernel
theorem dX3_placesOneWayFrom_67 : decode cX3_placesOneWayFrom 67 = .ok (.istore_n 1, 1) := by decide +kernel
theorem dX3_placesOneWayFrom_68 : decode cX3_placesOneWayFrom 68 = .ok (.iinc 2 1, 3) := by decide +kernel
theorem dX3_placesOneWayFrom_71 : decode cX3_placesOneWayFrom 71 = .ok (.goto (-67), 3) := by decide +kernel
theorem dX3_placesOneWayFrom_74 : decode cX3_placesOneWayFrom 74 = .ok (.iload_n 1, 1) := by decide +kernel
theorem dX3_placesOneWayFrom_75 : decode cX3_placesOneWayFrom 75 = .ok (.ireturn, 1) := by decide +kernel
theorem dX3_setOf_0 : decode cX3_setOf 0 = .ok (.iconst 1, 1) := by decide +kernel
theorem dX3_setOf_1 : decode cX3_setOf 1 = .ok (.iload_n 0, 1) := by decide +kernel
theorem dX3_setOf_2 : decode cX3_setOf 2 = .ok (.ishl, 1) := by decide +kernel
theorem dX3_setOf_3 : decode cX3_setOf 3 = .ok (.ireturn, 1) := by decide +kernel
set_option maxRecDepth 20000 in
theorem ggX3_isOneAlone_J6_bitCount_0f7a4 : GoodIn wsX3_isOneAlone wsJ6_bitCount_0f7a4 := goodIn_r _ [4, 5, 6, 7] (by decide +kernel) (by decide +kernel)
set_option maxRecDepth 20000 in
theorem gX3_isOneAlone_J6_bitCount_0f7a4 : GoodIn wsX3_isOneAlone (va_wsS RX3 214 yJ6_bitCount_0f7a4 wsJ6_bitCount_0f7a4) := goodIn_app (goodIn_of _ (by decide +kernel)) ggX3_isOneAlone_J6_bitCount_0f7a4
theorem dX3_isOneAlone_0 : decode cX3_isOneAlone 0 = .ok (.iload_n 0, 1) := by decide +kernel
theorem dX3_isOneAlone_1 : decode cX3_isOneAlone 1 = .ok (.invokestatic 214, 3) := by decide +kernel
theorem dX3_isOneAlone_4 : decode cX3_isOneAlone 4 = .ok (.iconst 1, 1) := by decide +kernel
theorem dX3_isOneAlone_5 : decode cX3_isOneAlone 5 = .ok (.if_icmp .ne 7, 3) := by decide +kernel
theorem dX3_isOneAlone_8 : decode cX3_isOneAlone 8 = .ok (.iconst 1, 1) := by decide +kernel
theorem dX3_isOneAlone_9 : decode cX3_isOneAlone 9 = .ok (.goto 4, 3) := by decide +kernel
theorem dX3_isOneAlone_12 : decode cX3_isOneAlone 12 = .ok (.iconst 0, 1) := by decide +kernel
theorem dX3_isOneAlone_13 : decode cX3_isOneAlone 13 = .ok (.ireturn, 1) := by decide +kernel
