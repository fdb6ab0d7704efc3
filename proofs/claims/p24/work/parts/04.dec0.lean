theorem dX0_init_0 : decode cX0_init 0 = .ok (.aload_n 0, 1) := by decide +kernel
theorem dX0_init_1 : decode cX0_init 1 = .ok (.invokespecial 1, 3) := by decide +kernel
theorem dX0_init_4 : decode cX0_init 4 = .ok (.aload_n 0, 1) := by decide +kernel
theorem dX0_init_5 : decode cX0_init 5 = .ok (.iconst (-1), 1) := by decide +kernel
theorem dX0_init_6 : decode cX0_init 6 = .ok (.putfield 7, 3) := by decide +kernel
theorem dX0_init_9 : decode cX0_init 9 = .ok (.aload_n 0, 1) := by decide +kernel
theorem dX0_init_10 : decode cX0_init 10 = .ok (.iload_n 1, 1) := by decide +kernel
theorem dX0_init_11 : decode cX0_init 11 = .ok (.putfield 13, 3) := by decide +kernel
theorem dX0_init_14 : decode cX0_init 14 = .ok (.return_, 1) := by decide +kernel
theorem dX1_init_0 : decode cX1_init 0 = .ok (.aload_n 0, 1) := by decide +kernel
theorem dX1_init_1 : decode cX1_init 1 = .ok (.invokespecial 3, 3) := by decide +kernel
theorem dX1_init_4 : decode cX1_init 4 = .ok (.aload_n 0, 1) := by decide +kernel
theorem dX1_init_5 : decode cX1_init 5 = .ok (.bipush 16, 2) := by decide +kernel
theorem dX1_init_7 : decode cX1_init 7 = .ok (.newarray .int, 2) := by decide +kernel
theorem dX1_init_9 : decode cX1_init 9 = .ok (.putfield 9, 3) := by decide +kernel
theorem dX1_init_12 : decode cX1_init 12 = .ok (.aload_n 0, 1) := by decide +kernel
theorem dX1_init_13 : decode cX1_init 13 = .ok (.bipush 16, 2) := by decide +kernel
theorem dX1_init_15 : decode cX1_init 15 = .ok (.newarray .int, 2) := by decide +kernel
theorem dX1_init_17 : decode cX1_init 17 = .ok (.putfield 15, 3) := by decide +kernel
theorem dX1_init_20 : decode cX1_init 20 = .ok (.return_, 1) := by decide +kernel
set_option maxRecDepth 20000 in
theorem ggX1_at_X3_isSixteenth : GoodIn wsX1_at wsX3_isSixteenth := goodIn_r _ [4] (by decide +kernel) (by decide +kernel)
set_option maxRecDepth 20000 in
theorem gX1_at_X3_isSixteenth_n18 : GoodIn wsX1_at (wsX3_isSixteenth) := ggX1_at_X3_isSixteenth
theorem dX1_at_0 : decode cX1_at 0 = .ok (.iload_n 1, 1) := by decide +kernel
theorem dX1_at_1 : decode cX1_at 1 = .ok (.invokestatic 18, 3) := by decide +kernel
theorem dX1_at_4 : decode cX1_at 4 = .ok (.ifCond .eq 12, 3) := by decide +kernel
theorem dX1_at_7 : decode cX1_at 7 = .ok (.aload_n 0, 1) := by decide +kernel
theorem dX1_at_8 : decode cX1_at 8 = .ok (.getfield 9, 3) := by decide +kernel
theorem dX1_at_11 : decode cX1_at 11 = .ok (.iload_n 1, 1) := by decide +kernel
theorem dX1_at_12 : decode cX1_at 12 = .ok (.iaload, 1) := by decide +kernel
theorem dX1_at_13 : decode cX1_at 13 = .ok (.goto 4, 3) := by decide +kernel
theorem dX1_at_16 : decode cX1_at 16 = .ok (.iconst 0, 1) := by decide +kernel
theorem dX1_at_17 : decode cX1_at 17 = .ok (.ireturn, 1) := by decide +kernel
set_option maxRecDepth 20000 in
theorem ggX1_put_X3_isSixteenth : GoodIn wsX1_put wsX3_isSixteenth := goodIn_r _ [4] (by decide +kernel) (by decide +kernel)
set_option maxRecDepth 20000 in
theorem gX1_put_X3_isSixteenth_n18 : GoodIn wsX1_put (wsX3_isSixteenth) := ggX1_put_X3_isSixteenth
theorem dX1_put_0 : decode cX1_put 0 = .ok (.iload_n 1, 1) := by decide +kernel
theorem dX1_put_1 : decode cX1_put 1 = .ok (.invokestatic 18, 3) := by decide +kernel
theorem dX1_put_4 : decode cX1_put 4 = .ok (.ifCond .eq 10, 3) := by decide +kernel
theorem dX1_put_7 : decode cX1_put 7 = .ok (.aload_n 0, 1) := by decide +kernel
theorem dX1_put_8 : decode cX1_put 8 = .ok (.getfield 9, 3) := by decide +kernel
theorem dX1_put_11 : decode cX1_put 11 = .ok (.iload_n 1, 1) := by decide +kernel
theorem dX1_put_12 : decode cX1_put 12 = .ok (.iload_n 2, 1) := by decide +kernel
theorem dX1_put_13 : decode cX1_put 13 = .ok (.iastore, 1) := by decide +kernel
theorem dX1_put_14 : decode cX1_put 14 = .ok (.return_, 1) := by decide +kernel
theorem dX1_putInOrder_0 : decode cX1_putInOrder 0 = .ok (.iconst 0, 1) := by decide +kernel
theorem dX1_putInOrder_1 : decode cX1_putInOrder 1 = .ok (.istore_n 1, 1) := by decide +kernel
theorem dX1_putInOrder_2 : decode cX1_putInOrder 2 = .ok (.iload_n 1, 1) := by decide +kernel
theorem dX1_putInOrder_3 : decode cX1_putInOrder 3 = .ok (.bipush 16, 2) := by decide +kernel
theorem dX1_putInOrder_5 : decode cX1_putInOrder 5 = .ok (.if_icmp .ge 16, 3) := by decide +kernel
theorem dX1_putInOrder_8 : decode cX1_putInOrder 8 = .ok (.aload_n 0, 1) := by decide +kernel
theorem dX1_putInOrder_9 : decode cX1_putInOrder 9 = .ok (.getfield 9, 3) := by decide +kernel
theorem dX1_putInOrder_12 : decode cX1_putInOrder 12 = .ok (.iload_n 1, 1) := by decide +kernel
theorem dX1_putInOrder_13 : decode cX1_putInOrder 13 = .ok (.iload_n 1, 1) := by decide +kernel
theorem dX1_putInOrder_14 : decode cX1_putInOrder 14 = .ok (.iastore, 1) := by decide +kernel
theorem dX1_putInOrder_15 : decode cX1_putInOrder 15 = .ok (.iinc 1 1, 3) := by decide +kernel
theorem dX1_putInOrder_18 : decode cX1_putInOrder 18 = .ok (.goto (-16), 3) := by decide +kernel
theorem dX1_putInOrder_21 : decode cX1_putInOrder 21 = .ok (.return_, 1) := by decide +kernel
set_option maxRecDepth 20000 in
theorem ggX1_carry_X3_placeAfter : GoodIn wsX1_carry wsX3_placeAfter := goodIn_r _ [5, 6, 7, 4, 8] (by decide +kernel) (by decide +kernel)
set_option maxRecDepth 20000 in
theorem gX1_carry_X3_placeAfter_n22 : GoodIn wsX1_carry (wsX3_placeAfter) := ggX1_carry_X3_placeAfter
set_option maxRecDepth 20000 in
theorem ggX1_carry_X3_isSixteenth : GoodIn wsX1_carry wsX3_isSixteenth := goodIn_r _ [10] (by decide +kernel) (by decide +kernel)
set_option maxRecDepth 20000 in
theorem gX1_carry_X3_isSixteenth_n18 : GoodIn wsX1_carry (wsX3_isSixteenth) := ggX1_carry_X3_isSixteenth
theorem dX1_carry_0 : decode cX1_carry 0 = .ok (.iconst 0, 1) := by decide +kernel
theorem dX1_carry_1 : decode cX1_carry 1 = .ok (.istore_n 3, 1) := by decide +kernel
theorem dX1_carry_2 : decode cX1_carry 2 = .ok (.iload_n 3, 1) := by decide +kernel
theorem dX1_carry_3 : decode cX1_carry 3 = .ok (.bipush 16, 2) := by decide +kernel
theorem dX1_carry_5 : decode cX1_carry 5 = .ok (.if_icmp .ge 38, 3) := by decide +kernel
theorem dX1_carry_8 : decode cX1_carry 8 = .ok (.iload_n 1, 1) := by decide +kernel
theorem dX1_carry_9 : decode cX1_carry 9 = .ok (.iload_n 2, 1) := by decide +kernel
theorem dX1_carry_10 : decode cX1_carry 10 = .ok (.iload_n 3, 1) := by decide +kernel
theorem dX1_carry_11 : decode cX1_carry 11 = .ok (.invokestatic 22, 3) := by decide +kernel
theorem dX1_carry_14 : decode cX1_carry 14 = .ok (.istore 4, 2) := by decide +kernel
theorem dX1_carry_16 : decode cX1_carry 16 = .ok (.iload 4, 2) := by decide +kernel
theorem dX1_carry_18 : decode cX1_carry 18 = .ok (.invokestatic 18, 3) := by decide +kernel
theorem dX1_carry_21 : decode cX1_carry 21 = .ok (.ifCond .eq 16, 3) := by decide +kernel
theorem dX1_carry_24 : decode cX1_carry 24 = .ok (.aload_n 0, 1) := by decide +kernel
theorem dX1_carry_25 : decode cX1_carry 25 = .ok (.getfield 15, 3) := by decide +kernel
theorem dX1_carry_28 : decode cX1_carry 28 = .ok (.iload 4, 2) := by decide +kernel
theorem dX1_carry_30 : decode cX1_carry 30 = .ok (.aload_n 0, 1) := by decide +kernel
theorem dX1_carry_31 : decode cX1_carry 31 = .ok (.getfield 9, 3) := by decide +kernel
theorem dX1_carry_34 : decode cX1_carry 34 = .ok (.iload_n 3, 1) := by decide +kernel
theorem dX1_carry_35 : decode cX1_carry 35 = .ok (.iaload, 1) := by decide +kernel
theorem dX1_carry_36 : decode cX1_carry 36 = .ok (.iastore, 1) := by decide +kernel
theorem dX1_carry_37 : decode cX1_carry 37 = .ok (.iinc 3 1, 3) := by decide +kernel
theorem dX1_carry_40 : decode cX1_carry 40 = .ok (.goto (-38), 3) := by decide +kernel
theorem dX1_carry_43 : decode cX1_carry 43 = .ok (.iconst 0, 1) := by decide +kernel
theorem dX1_carry_44 : decode cX1_carry 44 = .ok (.istore_n 3, 1) := by decide +kernel
theorem dX1_carry_45 : decode cX1_carry 45 = .ok (.iload_n 3, 1) := by decide +kernel
theorem dX1_carry_46 : decode cX1_carry 46 = .ok (.bipush 16, 2) := by decide +kernel
theorem dX1_carry_48 : decode cX1_carry 48 = .ok (.if_icmp .ge 21, 3) := by decide +kernel
theorem dX1_carry_51 : decode cX1_carry 51 = .ok (.aload_n 0, 1) := by decide +kernel
theorem dX1_carry_52 : decode cX1_carry 52 = .ok (.getfield 9, 3) := by decide +kernel
theorem dX1_carry_55 : decode cX1_carry 55 = .ok (.iload_n 3, 1) := by decide +kernel
theorem dX1_carry_56 : decode cX1_carry 56 = .ok (.aload_n 0, 1) := by decide +kernel
theorem dX1_carry_57 : decode cX1_carry 57 = .ok (.getfield 15, 3) := by decide +kernel
theorem dX1_carry_60 : decode cX1_carry 60 = .ok (.iload_n 3, 1) := by decide +kernel
theorem dX1_carry_61 : decode cX1_carry 61 = .ok (.iaload, 1) := by decide +kernel
theorem dX1_carry_62 : decode cX1_carry 62 = .ok (.iastore, 1) := by decide +kernel
theorem dX1_carry_63 : decode cX1_carry 63 = .ok (.iinc 3 1, 3) := by decide +kernel
theorem dX1_carry_66 : decode cX1_carry 66 = .ok (.goto (-21), 3) := by decide +kernel
theorem dX1_carry_69 : decode cX1_carry 69 = .ok (.return_, 1) := by decide +kernel
theorem dX1_firstPlaceOf_0 : decode cX1_firstPlaceOf 0 = .ok (.iconst 0, 1) := by decide +kernel
theorem dX1_firstPlaceOf_1 : decode cX1_firstPlaceOf 1 = .ok (.istore_n 2, 1) := by decide +kernel
theorem dX1_firstPlaceOf_2 : decode cX1_firstPlaceOf 2 = .ok (.iload_n 2, 1) := by decide +kernel
theorem dX1_firstPlaceOf_3 : decode cX1_firstPlaceOf 3 = .ok (.bipush 16, 2) := by decide +kernel
theorem dX1_firstPlaceOf_5 : decode cX1_firstPlaceOf 5 = .ok (.if_icmp .ge 21, 3) := by decide +kernel
theorem dX1_firstPlaceOf_8 : decode cX1_firstPlaceOf 8 = .ok (.aload_n 0, 1) := by decide +kernel
theorem dX1_firstPlaceOf_9 : decode cX1_firstPlaceOf 9 = .ok (.getfield 9, 3) := by decide +kernel
theorem dX1_firstPlaceOf_12 : decode cX1_firstPlaceOf 12 = .ok (.iload_n 2, 1) := by decide +kernel
theorem dX1_firstPlaceOf_13 : decode cX1_firstPlaceOf 13 = .ok (.iaload, 1) := by decide +kernel
theorem dX1_firstPlaceOf_14 : decode cX1_firstPlaceOf 14 = .ok (.iload_n 1, 1) := by decide +kernel
theorem dX1_firstPlaceOf_15 : decode cX1_firstPlaceOf 15 = .ok (.if_icmp .ne 5, 3) := by decide +kernel
theorem dX1_firstPlaceOf_18 : decode cX1_firstPlaceOf 18 = .ok (.iload_n 2, 1) := by decide +kernel
theorem dX1_firstPlaceOf_19 : decode cX1_firstPlaceOf 19 = .ok (.ireturn, 1) := by decide +kernel
theorem dX1_firstPlaceOf_20 : decode cX1_firstPlaceOf 20 = .ok (.iinc 2 1, 3) := by decide +kernel
theorem dX1_firstPlaceOf_23 : decode cX1_firstPlaceOf 23 = .ok (.goto (-21), 3) := by decide +kernel
theorem dX1_firstPlaceOf_26 : decode cX1_firstPlaceOf 26 = .ok (.iconst (-1), 1) := by decide +kernel
theorem dX1_firstPlaceOf_27 : decode cX1_firstPlaceOf 27 = .ok (.ireturn, 1) := by decide +kernel
theorem dX1_placesInOrder_0 : decode cX1_placesInOrder 0 = .ok (.iconst 0, 1) := by decide +kernel
theorem dX1_placesInOrder_1 : decode cX1_placesInOrder 1 = .ok (.istore_n 1, 1) := by decide +kernel
theorem dX1_placesInOrder_2 : decode cX1_placesInOrder 2 = .ok (.iconst 0, 1) := by decide +kernel
theorem dX1_placesInOrder_3 : decode cX1_placesInOrder 3 = .ok (.istore_n 2, 1) := by decide +kernel
theorem dX1_placesInOrder_4 : decode cX1_placesInOrder 4 = .ok (.iload_n 2, 1) := by decide +kernel
theorem dX1_placesInOrder_5 : decode cX1_placesInOrder 5 = .ok (.bipush 16, 2) := by decide +kernel
theorem dX1_placesInOrder_7 : decode cX1_placesInOrder 7 = .ok (.if_icmp .ge 22, 3) := by decide +kernel
theorem dX1_placesInOrder_10 : decode cX1_placesInOrder 10 = .ok (.aload_n 0, 1) := by decide +kernel
theorem dX1_placesInOrder_11 : decode cX1_placesInOrder 11 = .ok (.getfield 9, 3) := by decide +kernel
theorem dX1_placesInOrder_14 : decode cX1_placesInOrder 14 = .ok (.iload_n 2, 1) := by decide +kernel
theorem dX1_placesInOrder_15 : decode cX1_placesInOrder 15 = .ok (.iaload, 1) := by decide +kernel
theorem dX1_placesInOrder_16 : decode cX1_placesInOrder 16 = .ok (.iload_n 2, 1) := by decide +kernel
theorem dX1_placesInOrder_17 : decode cX1_placesInOrder 17 = .ok (.if_icmp .ne 6, 3) := by decide +kernel
theorem dX1_placesInOrder_20 : decode cX1_placesInOrder 20 = .ok (.iinc 1 1, 3) := by decide +kernel
theorem dX1_placesInOrder_23 : decode cX1_placesInOrder 23 = .ok (.iinc 2 1, 3) := by decide +kernel
theorem dX1_placesInOrder_26 : decode cX1_placesInOrder 26 = .ok (.goto (-22), 3) := by decide +kernel
theorem dX1_placesInOrder_29 : decode cX1_placesInOrder 29 = .ok (.iload_n 1, 1) := by decide +kernel
theorem dX1_placesInOrder_30 : decode cX1_placesInOrder 30 = .ok (.ireturn, 1) := by decide +kernel
set_option maxRecDepth 20000 in
theorem ggX1_mixedInto_X3_mixed : GoodIn wsX1_mixedInto wsX3_mixed := goodIn_r _ [4, 5] (by decide +kernel) (by decide +kernel)
set_option maxRecDepth 20000 in
theorem gX1_mixedInto_X3_mixed_n26 : GoodIn wsX1_mixedInto (wsX3_mixed) := ggX1_mixedInto_X3_mixed
theorem dX1_mixedInto_0 : decode cX1_mixedInto 0 = .ok (.lload_n 1, 1) := by decide +kernel
theorem dX1_mixedInto_1 : decode cX1_mixedInto 1 = .ok (.lstore_n 3, 1) := by decide +kernel
theorem dX1_mixedInto_2 : decode cX1_mixedInto 2 = .ok (.iconst 0, 1) := by decide +kernel
theorem dX1_mixedInto_3 : decode cX1_mixedInto 3 = .ok (.istore 5, 2) := by decide +kernel
theorem dX1_mixedInto_5 : decode cX1_mixedInto 5 = .ok (.iload 5, 2) := by decide +kernel
theorem dX1_mixedInto_7 : decode cX1_mixedInto 7 = .ok (.bipush 16, 2) := by decide +kernel
theorem dX1_mixedInto_9 : decode cX1_mixedInto 9 = .ok (.if_icmp .ge 21, 3) := by decide +kernel
theorem dX1_mixedInto_12 : decode cX1_mixedInto 12 = .ok (.lload_n 3, 1) := by decide +kernel
theorem dX1_mixedInto_13 : decode cX1_mixedInto 13 = .ok (.aload_n 0, 1) := by decide +kernel
theorem dX1_mixedInto_14 : decode cX1_mixedInto 14 = .ok (.getfield 9, 3) := by decide +kernel
theorem dX1_mixedInto_17 : decode cX1_mixedInto 17 = .ok (.iload 5, 2) := by decide +kernel
theorem dX1_mixedInto_19 : decode cX1_mixedInto 19 = .ok (.iaload, 1) := by decide +kernel
theorem dX1_mixedInto_20 : decode cX1_mixedInto 20 = .ok (.invokestatic 26, 3) := by decide +kernel
theorem dX1_mixedInto_23 : decode cX1_mixedInto 23 = .ok (.lstore_n 3, 1) := by decide +kernel
theorem dX1_mixedInto_24 : decode cX1_mixedInto 24 = .ok (.iinc 5 1, 3) := by decide +kernel
theorem dX1_mixedInto_27 : decode cX1_mixedInto 27 = .ok (.goto (-22), 3) := by decide +kernel
theorem dX1_mixedInto_30 : decode cX1_mixedInto 30 = .ok (.lload_n 3, 1) := by decide +kernel
theorem dX1_mixedInto_31 : decode cX1_mixedInto 31 = .ok (.lreturn, 1) := by decide +kernel
set_option maxRecDepth 20000 in
theorem ggX2_init_X1_init : GoodIn wsX2_init wsX1_init := goodIn_r _ [11, 12, 2, 3, 13, 14, 15, 23, 24] (by decide +kernel) (by decide +kernel)
set_option maxRecDepth 20000 in
theorem gX2_init_X1_init_n11 : GoodIn wsX2_init (wsX1_init) := ggX2_init_X1_init
set_option maxRecDepth 20000 in
theorem ggX2_init_X1_put : GoodIn wsX2_init wsX1_put := goodIn_r _ [19, 14, 20, 21, 22, 23, 24] (by decide +kernel) (by decide +kernel)
set_option maxRecDepth 20000 in
theorem gX2_init_X1_put : GoodIn wsX2_init (wsV RX2 23 RX1 yX1_put wsX1_put) := goodIn_app (goodIn_of _ (by decide +kernel)) ggX2_init_X1_put
theorem dX2_init_0 : decode cX2_init 0 = .ok (.aload_n 0, 1) := by decide +kernel
theorem dX2_init_1 : decode cX2_init 1 = .ok (.invokespecial 3, 3) := by decide +kernel
theorem dX2_init_4 : decode cX2_init 4 = .ok (.aload_n 0, 1) := by decide +kernel
theorem dX2_init_5 : decode cX2_init 5 = .ok (.new 9, 3) := by decide +kernel
theorem dX2_init_8 : decode cX2_init 8 = .ok (.dup, 1) := by decide +kernel
theorem dX2_init_9 : decode cX2_init 9 = .ok (.invokespecial 11, 3) := by decide +kernel
theorem dX2_init_12 : decode cX2_init 12 = .ok (.putfield 12, 3) := by decide +kernel
theorem dX2_init_15 : decode cX2_init 15 = .ok (.aload_n 0, 1) := by decide +kernel
theorem dX2_init_16 : decode cX2_init 16 = .ok (.iload_n 1, 1) := by decide +kernel
theorem dX2_init_17 : decode cX2_init 17 = .ok (.putfield 18, 3) := by decide +kernel
theorem dX2_init_20 : decode cX2_init 20 = .ok (.iconst 0, 1) := by decide +kernel
theorem dX2_init_21 : decode cX2_init 21 = .ok (.istore_n 2, 1) := by decide +kernel
theorem dX2_init_22 : decode cX2_init 22 = .ok (.iload_n 2, 1) := by decide +kernel
theorem dX2_init_23 : decode cX2_init 23 = .ok (.bipush 16, 2) := by decide +kernel
theorem dX2_init_25 : decode cX2_init 25 = .ok (.if_icmp .ge 19, 3) := by decide +kernel
theorem dX2_init_28 : decode cX2_init 28 = .ok (.aload_n 0, 1) := by decide +kernel
theorem dX2_init_29 : decode cX2_init 29 = .ok (.getfield 12, 3) := by decide +kernel
theorem dX2_init_32 : decode cX2_init 32 = .ok (.iload_n 2, 1) := by decide +kernel
theorem dX2_init_33 : decode cX2_init 33 = .ok (.ldc 22, 2) := by decide +kernel
theorem dX2_init_35 : decode cX2_init 35 = .ok (.invokevirtual 23, 3) := by decide +kernel
theorem dX2_init_38 : decode cX2_init 38 = .ok (.iinc 2 1, 3) := by decide +kernel
theorem dX2_init_41 : decode cX2_init 41 = .ok (.goto (-19), 3) := by decide +kernel
theorem dX2_init_44 : decode cX2_init 44 = .ok (.return_, 1) := by decide +kernel
set_option maxRecDepth 20000 in
theorem ggX2_follow_X1_carry : GoodIn wsX2_follow wsX1_carry := goodIn_r _ [6, 7, 8, 9, 10, 11, 12, 13, 14, 15, 16, 21, 22] (by decide +kernel) (by decide +kernel)
set_option maxRecDepth 20000 in
theorem gX2_follow_X1_carry : GoodIn wsX2_follow (wsV RX2 27 RX1 yX1_carry wsX1_carry) := goodIn_app (goodIn_of _ (by decide +kernel)) ggX2_follow_X1_carry
theorem dX2_follow_0 : decode cX2_follow 0 = .ok (.aload_n 0, 1) := by decide +kernel
theorem dX2_follow_1 : decode cX2_follow 1 = .ok (.getfield 12, 3) := by decide +kernel
theorem dX2_follow_4 : decode cX2_follow 4 = .ok (.iload_n 1, 1) := by decide +kernel
theorem dX2_follow_5 : decode cX2_follow 5 = .ok (.iload_n 2, 1) := by decide +kernel
theorem dX2_follow_6 : decode cX2_follow 6 = .ok (.invokevirtual 27, 3) := by decide +kernel
theorem dX2_follow_9 : decode cX2_follow 9 = .ok (.return_, 1) := by decide +kernel
set_option maxRecDepth 20000 in
theorem ggX2_see_X3_setOf : GoodIn wsX2_see wsX3_setOf := goodIn_r _ [6] (by decide +kernel) (by decide +kernel)
set_option maxRecDepth 20000 in
theorem gX2_see_X3_setOf_n34 : GoodIn wsX2_see (wsX3_setOf) := ggX2_see_X3_setOf
set_option maxRecDepth 20000 in
theorem ggX2_see_X1_put : GoodIn wsX2_see wsX1_put := goodIn_r _ [11, 12, 13, 5, 14, 50, 51] (by decide +kernel) (by decide +kernel)
set_option maxRecDepth 20000 in
theorem gX2_see_X1_put : GoodIn wsX2_see (wsV RX2 23 RX1 yX1_put wsX1_put) := goodIn_app (goodIn_of _ (by decide +kernel)) ggX2_see_X1_put
set_option maxRecDepth 20000 in
theorem ggX2_see_X2_concludes : GoodIn wsX2_see wsX2_concludes := goodIn_r _ [19, 2, 20, 21, 22, 10, 23, 12, 13, 5, 14, 24, 25, 26, 27, 28, 29, 30, 31, 32, 33, 34, 35, 18, 36, 7, 8, 9, 11, 37, 38, 39, 40, 46, 47, 48, 49, 50, 51] (by decide +kernel) (by decide +kernel)
set_option maxRecDepth 20000 in
theorem gX2_see_X2_concludes : GoodIn wsX2_see (wsV RX2 38 RX2 yX2_concludes wsX2_concludes) := goodIn_app (goodIn_of _ (by decide +kernel)) ggX2_see_X2_concludes
set_option maxRecDepth 20000 in
theorem ggX2_see_X2_thinkAnew : GoodIn wsX2_see wsX2_thinkAnew := goodIn_r _ [44, 2, 45, 4, 5, 6, 7, 8, 9, 10, 11, 12, 13, 14, 46, 47, 48, 49, 50, 51] (by decide +kernel) (by decide +kernel)
set_option maxRecDepth 20000 in
theorem gX2_see_X2_thinkAnew : GoodIn wsX2_see (wsV RX2 42 RX2 yX2_thinkAnew wsX2_thinkAnew) := goodIn_app (goodIn_of _ (by decide +kernel)) ggX2_see_X2_thinkAnew
theorem dX2_see_0 : decode cX2_see 0 = .ok (.aload_n 0, 1) := by decide +kernel
theorem dX2_see_1 : decode cX2_see 1 = .ok (.dup, 1) := by decide +kernel
theorem dX2_see_2 : decode cX2_see 2 = .ok (.getfield 30, 3) := by decide +kernel
theorem dX2_see_5 : decode cX2_see 5 = .ok (.iconst 1, 1) := by decide +kernel
theorem dX2_see_6 : decode cX2_see 6 = .ok (.iadd, 1) := by decide +kernel
theorem dX2_see_7 : decode cX2_see 7 = .ok (.putfield 30, 3) := by decide +kernel
theorem dX2_see_10 : decode cX2_see 10 = .ok (.aload_n 0, 1) := by decide +kernel
theorem dX2_see_11 : decode cX2_see 11 = .ok (.getfield 12, 3) := by decide +kernel
theorem dX2_see_14 : decode cX2_see 14 = .ok (.iload_n 1, 1) := by decide +kernel
theorem dX2_see_15 : decode cX2_see 15 = .ok (.iload_n 2, 1) := by decide +kernel
theorem dX2_see_16 : decode cX2_see 16 = .ok (.invokestatic 34, 3) := by decide +kernel
theorem dX2_see_19 : decode cX2_see 19 = .ok (.invokevirtual 23, 3) := by decide +kernel
theorem dX2_see_22 : decode cX2_see 22 = .ok (.aload_n 0, 1) := by decide +kernel
theorem dX2_see_23 : decode cX2_see 23 = .ok (.invokevirtual 38, 3) := by decide +kernel
theorem dX2_see_26 : decode cX2_see 26 = .ok (.ifCond .ne 19, 3) := by decide +kernel
theorem dX2_see_29 : decode cX2_see 29 = .ok (.aload_n 0, 1) := by decide +kernel
theorem dX2_see_30 : decode cX2_see 30 = .ok (.iload_n 1, 1) := by decide +kernel
theorem dX2_see_31 : decode cX2_see 31 = .ok (.iload_n 2, 1) := by decide +kernel
theorem dX2_see_32 : decode cX2_see 32 = .ok (.invokevirtual 42, 3) := by decide +kernel
theorem dX2_see_35 : decode cX2_see 35 = .ok (.aload_n 0, 1) := by decide +kernel
theorem dX2_see_36 : decode cX2_see 36 = .ok (.dup, 1) := by decide +kernel
theorem dX2_see_37 : decode cX2_see 37 = .ok (.getfield 45, 3) := by decide +kernel
theorem dX2_see_40 : decode cX2_see 40 = .ok (.iconst 1, 1) := by decide +kernel
theorem dX2_see_41 : decode cX2_see 41 = .ok (.iadd, 1) := by decide +kernel
theorem dX2_see_42 : decode cX2_see 42 = .ok (.putfield 45, 3) := by decide +kernel
theorem dX2_see_45 : decode cX2_see 45 = .ok (.return_, 1) := by decide +kernel
set_option maxRecDepth 20000 in
theorem ggX2_concludes_X1_at : GoodIn wsX2_concludes wsX1_at := goodIn_r _ [6, 7, 8, 9, 10, 37, 38] (by decide +kernel) (by decide +kernel)
set_option maxRecDepth 20000 in
theorem gX2_concludes_X1_at : GoodIn wsX2_concludes (wsV RX2 48 RX1 yX1_at wsX1_at) := goodIn_app (goodIn_of _ (by decide +kernel)) ggX2_concludes_X1_at
set_option maxRecDepth 20000 in
theorem ggX2_concludes_X3_isOneAlone : GoodIn wsX2_concludes wsX3_isOneAlone := goodIn_r _ [12, 13, 14, 15, 16, 17, 18, 19] (by decide +kernel) (by decide +kernel)
set_option maxRecDepth 20000 in
theorem gX2_concludes_X3_isOneAlone_n51 : GoodIn wsX2_concludes (wsX3_isOneAlone) := ggX2_concludes_X3_isOneAlone
set_option maxRecDepth 20000 in
theorem ggX2_concludes_X2_strikesElsewhere : GoodIn wsX2_concludes wsX2_strikesElsewhere := goodIn_r _ [24, 1, 2, 3, 4, 5, 6, 7, 8, 9, 10, 25, 26, 27, 28, 33, 34, 35, 36, 37, 38] (by decide +kernel) (by decide +kernel)
set_option maxRecDepth 20000 in
theorem gX2_concludes_X2_strikesElsewhere : GoodIn wsX2_concludes (wsV RX2 55 RX2 yX2_strikesElsewhere wsX2_strikesElsewhere) := goodIn_app (goodIn_of _ (by decide +kernel)) ggX2_concludes_X2_strikesElsewhere
set_option maxRecDepth 20000 in
theorem ggX2_concludes_X1_firstPlaceOf : GoodIn wsX2_concludes wsX1_firstPlaceOf := goodIn_r _ [32, 7, 37, 38] (by decide +kernel) (by decide +kernel)
set_option maxRecDepth 20000 in
theorem gX2_concludes_X1_firstPlaceOf : GoodIn wsX2_concludes (wsV RX2 58 RX1 yX1_firstPlaceOf wsX1_firstPlaceOf) := goodIn_app (goodIn_of _ (by decide +kernel)) ggX2_concludes_X1_firstPlaceOf
theorem dX2_concludes_0 : decode cX2_concludes 0 = .ok (.iconst 1, 1) := by decide +kernel
theorem dX2_concludes_1 : decode cX2_concludes 1 = .ok (.istore_n 1, 1) := by decide +kernel
theorem dX2_concludes_2 : decode cX2_concludes 2 = .ok (.iconst 0, 1) := by decide +kernel
theorem dX2_concludes_3 : decode cX2_concludes 3 = .ok (.istore_n 2, 1) := by decide +kernel
theorem dX2_concludes_4 : decode cX2_concludes 4 = .ok (.iload_n 1, 1) := by decide +kernel
theorem dX2_concludes_5 : decode cX2_concludes 5 = .ok (.ifCond .eq 69, 3) := by decide +kernel
theorem dX2_concludes_8 : decode cX2_concludes 8 = .ok (.iload_n 2, 1) := by decide +kernel
theorem dX2_concludes_9 : decode cX2_concludes 9 = .ok (.sipush 256, 3) := by decide +kernel
theorem dX2_concludes_12 : decode cX2_concludes 12 = .ok (.if_icmp .gt 62, 3) := by decide +kernel
theorem dX2_concludes_15 : decode cX2_concludes 15 = .ok (.iconst 0, 1) := by decide +kernel
theorem dX2_concludes_16 : decode cX2_concludes 16 = .ok (.istore_n 1, 1) := by decide +kernel
theorem dX2_concludes_17 : decode cX2_concludes 17 = .ok (.iconst 0, 1) := by decide +kernel
theorem dX2_concludes_18 : decode cX2_concludes 18 = .ok (.istore_n 3, 1) := by decide +kernel
theorem dX2_concludes_19 : decode cX2_concludes 19 = .ok (.iload_n 3, 1) := by decide +kernel
theorem dX2_concludes_20 : decode cX2_concludes 20 = .ok (.bipush 16, 2) := by decide +kernel
theorem dX2_concludes_22 : decode cX2_concludes 22 = .ok (.if_icmp .ge 33, 3) := by decide +kernel
theorem dX2_concludes_25 : decode cX2_concludes 25 = .ok (.aload_n 0, 1) := by decide +kernel
theorem dX2_concludes_26 : decode cX2_concludes 26 = .ok (.getfield 12, 3) := by decide +kernel
theorem dX2_concludes_29 : decode cX2_concludes 29 = .ok (.iload_n 3, 1) := by decide +kernel
theorem dX2_concludes_30 : decode cX2_concludes 30 = .ok (.invokevirtual 48, 3) := by decide +kernel
theorem dX2_concludes_33 : decode cX2_concludes 33 = .ok (.invokestatic 51, 3) := by decide +kernel
theorem dX2_concludes_36 : decode cX2_concludes 36 = .ok (.ifCond .eq 13, 3) := by decide +kernel
theorem dX2_concludes_39 : decode cX2_concludes 39 = .ok (.aload_n 0, 1) := by decide +kernel
theorem dX2_concludes_40 : decode cX2_concludes 40 = .ok (.iload_n 3, 1) := by decide +kernel
theorem dX2_concludes_41 : decode cX2_concludes 41 = .ok (.invokevirtual 55, 3) := by decide +kernel
theorem dX2_concludes_44 : decode cX2_concludes 44 = .ok (.ifCond .eq 5, 3) := by decide +kernel
theorem dX2_concludes_47 : decode cX2_concludes 47 = .ok (.iconst 1, 1) := by decide +kernel
theorem dX2_concludes_48 : decode cX2_concludes 48 = .ok (.istore_n 1, 1) := by decide +kernel
theorem dX2_concludes_49 : decode cX2_concludes 49 = .ok (.iinc 3 1, 3) := by decide +kernel
theorem dX2_concludes_52 : decode cX2_concludes 52 = .ok (.goto (-33), 3) := by decide +kernel
theorem dX2_concludes_55 : decode cX2_concludes 55 = .ok (.aload_n 0, 1) := by decide +kernel
theorem dX2_concludes_56 : decode cX2_concludes 56 = .ok (.getfield 12, 3) := by decide +kernel
theorem dX2_concludes_59 : decode cX2_concludes 59 = .ok (.iconst 0, 1) := by decide +kernel
theorem dX2_concludes_60 : decode cX2_concludes 60 = .ok (.invokevirtual 58, 3) := by decide +kernel
theorem dX2_concludes_63 : decode cX2_concludes 63 = .ok (.ifCond .lt 5, 3) := by decide +kernel
theorem dX2_concludes_66 : decode cX2_concludes 66 = .ok (.iconst 0, 1) := by decide +kernel
theorem dX2_concludes_67 : decode cX2_concludes 67 = .ok (.ireturn, 1) := by decide +kernel
theorem dX2_concludes_68 : decode cX2_concludes 68 = .ok (.iinc 2 1, 3) := by decide +kernel
theorem dX2_concludes_71 : decode cX2_concludes 71 = .ok (.goto (-67), 3) := by decide +kernel
theorem dX2_concludes_74 : decode cX2_concludes 74 = .ok (.iconst 1, 1) := by decide +kernel
theorem dX2_concludes_75 : decode cX2_concludes 75 = .ok (.ireturn, 1) := by decide +kernel
set_option maxRecDepth 20000 in
theorem ggX2_strikesElsewhere_X1_at : GoodIn wsX2_strikesElsewhere wsX1_at := goodIn_r _ [6, 7, 8, 9, 10, 19, 20] (by decide +kernel) (by decide +kernel)
set_option maxRecDepth 20000 in
theorem gX2_strikesElsewhere_X1_at : GoodIn wsX2_strikesElsewhere (wsV RX2 48 RX1 yX1_at wsX1_at) := goodIn_app (goodIn_of _ (by decide +kernel)) ggX2_strikesElsewhere_X1_at
set_option maxRecDepth 20000 in
theorem ggX2_strikesElsewhere_X1_put : GoodIn wsX2_strikesElsewhere wsX1_put := goodIn_r _ [14, 7, 8, 9, 10, 19, 20] (by decide +kernel) (by decide +kernel)
set_option maxRecDepth 20000 in
theorem gX2_strikesElsewhere_X1_put : GoodIn wsX2_strikesElsewhere (wsV RX2 23 RX1 yX1_put wsX1_put) := goodIn_app (goodIn_of _ (by decide +kernel)) ggX2_strikesElsewhere_X1_put
theorem dX2_strikesElsewhere_0 : decode cX2_strikesElsewhere 0 = .ok (.aload_n 0, 1) := by decide +kernel
theorem dX2_strikesElsewhere_1 : decode cX2_strikesElsewhere 1 = .ok (.getfield 12, 3) := by decide +kernel
theorem dX2_strikesElsewhere_4 : decode cX2_strikesElsewhere 4 = .ok (.iload_n 1, 1) := by decide +kernel
theorem dX2_strikesElsewhere_5 : decode cX2_strikesElsewhere 5 = .ok (.invokevirtual 48, 3) := by decide +kernel
theorem dX2_strikesElsewhere_8 : decode cX2_strikesElsewhere 8 = .ok (.istore_n 2, 1) := by decide +kernel
theorem dX2_strikesElsewhere_9 : decode cX2_strikesElsewhere 9 = .ok (.iconst 0, 1) := by decide +kernel
theorem dX2_strikesElsewhere_10 : decode cX2_strikesElsewhere 10 = .ok (.istore_n 3, 1) := by decide +kernel
theorem dX2_strikesElsewhere_11 : decode cX2_strikesElsewhere 11 = .ok (.iconst 0, 1) := by decide +kernel
theorem dX2_strikesElsewhere_12 : decode cX2_strikesElsewhere 12 = .ok (.istore 4, 2) := by decide +kernel
theorem dX2_strikesElsewhere_14 : decode cX2_strikesElsewhere 14 = .ok (.iload 4, 2) := by decide +kernel
theorem dX2_strikesElsewhere_16 : decode cX2_strikesElsewhere 16 = .ok (.bipush 16, 2) := by decide +kernel
theorem dX2_strikesElsewhere_18 : decode cX2_strikesElsewhere 18 = .ok (.if_icmp .ge 50, 3) := by decide +kernel
theorem dX2_strikesElsewhere_21 : decode cX2_strikesElsewhere 21 = .ok (.aload_n 0, 1) := by decide +kernel
theorem dX2_strikesElsewhere_22 : decode cX2_strikesElsewhere 22 = .ok (.getfield 12, 3) := by decide +kernel
theorem dX2_strikesElsewhere_25 : decode cX2_strikesElsewhere 25 = .ok (.iload 4, 2) := by decide +kernel
theorem dX2_strikesElsewhere_27 : decode cX2_strikesElsewhere 27 = .ok (.invokevirtual 48, 3) := by decide +kernel
theorem dX2_strikesElsewhere_30 : decode cX2_strikesElsewhere 30 = .ok (.istore 5, 2) := by decide +kernel
theorem dX2_strikesElsewhere_32 : decode cX2_strikesElsewhere 32 = .ok (.iload 4, 2) := by decide +kernel
theorem dX2_strikesElsewhere_34 : decode cX2_strikesElsewhere 34 = .ok (.iload_n 1, 1) := by decide +kernel
theorem dX2_strikesElsewhere_35 : decode cX2_strikesElsewhere 35 = .ok (.if_icmp .eq 27, 3) := by decide +kernel
theorem dX2_strikesElsewhere_38 : decode cX2_strikesElsewhere 38 = .ok (.iload 5, 2) := by decide +kernel
theorem dX2_strikesElsewhere_40 : decode cX2_strikesElsewhere 40 = .ok (.iload_n 2, 1) := by decide +kernel
theorem dX2_strikesElsewhere_41 : decode cX2_strikesElsewhere 41 = .ok (.iand, 1) := by decide +kernel
theorem dX2_strikesElsewhere_42 : decode cX2_strikesElsewhere 42 = .ok (.ifCond .eq 20, 3) := by decide +kernel
theorem dX2_strikesElsewhere_45 : decode cX2_strikesElsewhere 45 = .ok (.aload_n 0, 1) := by decide +kernel
theorem dX2_strikesElsewhere_46 : decode cX2_strikesElsewhere 46 = .ok (.getfield 12, 3) := by decide +kernel
theorem dX2_strikesElsewhere_49 : decode cX2_strikesElsewhere 49 = .ok (.iload 4, 2) := by decide +kernel
theorem dX2_strikesElsewhere_51 : decode cX2_strikesElsewhere 51 = .ok (.iload 5, 2) := by decide +kernel
theorem dX2_strikesElsewhere_53 : decode cX2_strikesElsewhere 53 = .ok (.iload_n 2, 1) := by decide +kernel
theorem dX2_strikesElsewhere_54 : decode cX2_strikesElsewhere 54 = .ok (.iconst (-1), 1) := by decide +kernel
theorem dX2_strikesElsewhere_55 : decode cX2_strikesElsewhere 55 = .ok (.ixor, 1) := by decide +kernel
theorem dX2_strikesElsewhere_56 : decode cX2_strikesElsewhere 56 = .ok (.iand, 1) := by decide +kernel
theorem dX2_strikesElsewhere_57 : decode cX2_strikesElsewhere 57 = .ok (.invokevirtual 23, 3) := by decide +kernel
theorem dX2_strikesElsewhere_60 : decode cX2_strikesElsewhere 60 = .ok (.iconst 1, 1) := by decide +kernel
theorem dX2_strikesElsewhere_61 : decode cX2_strikesElsewhere 61 = .ok (.istore_n 3, 1) := by decide +kernel
theorem dX2_strikesElsewhere_62 : decode cX2_strikesElsewhere 62 = .ok (.iinc 4 1, 3) := by decide +kernel
theorem dX2_strikesElsewhere_65 : decode cX2_strikesElsewhere 65 = .ok (.goto (-51), 3) := by decide +kernel
theorem dX2_strikesElsewhere_68 : decode cX2_strikesElsewhere 68 = .ok (.iload_n 3, 1) := by decide +kernel
theorem dX2_strikesElsewhere_69 : decode cX2_strikesElsewhere 69 = .ok (.ireturn, 1) := by decide +kernel
set_option maxRecDepth 20000 in
theorem ggX2_thinkAnew_X3_setOf : GoodIn wsX2_thinkAnew wsX3_setOf := goodIn_r _ [5] (by decide +kernel) (by decide +kernel)
set_option maxRecDepth 20000 in
theorem gX2_thinkAnew_X3_setOf_n34 : GoodIn wsX2_thinkAnew (wsX3_setOf) := ggX2_thinkAnew_X3_setOf
set_option maxRecDepth 20000 in
theorem ggX2_thinkAnew_X1_put : GoodIn wsX2_thinkAnew wsX1_put := goodIn_r _ [10, 11, 12, 4, 13, 18, 19] (by decide +kernel) (by decide +kernel)
set_option maxRecDepth 20000 in
theorem gX2_thinkAnew_X1_put : GoodIn wsX2_thinkAnew (wsV RX2 23 RX1 yX1_put wsX1_put) := goodIn_app (goodIn_of _ (by decide +kernel)) ggX2_thinkAnew_X1_put
theorem dX2_thinkAnew_0 : decode cX2_thinkAnew 0 = .ok (.iconst 0, 1) := by decide +kernel
theorem dX2_thinkAnew_1 : decode cX2_thinkAnew 1 = .ok (.istore_n 3, 1) := by decide +kernel
theorem dX2_thinkAnew_2 : decode cX2_thinkAnew 2 = .ok (.iload_n 3, 1) := by decide +kernel
theorem dX2_thinkAnew_3 : decode cX2_thinkAnew 3 = .ok (.bipush 16, 2) := by decide +kernel
theorem dX2_thinkAnew_5 : decode cX2_thinkAnew 5 = .ok (.if_icmp .ge 26, 3) := by decide +kernel
theorem dX2_thinkAnew_8 : decode cX2_thinkAnew 8 = .ok (.aload_n 0, 1) := by decide +kernel
theorem dX2_thinkAnew_9 : decode cX2_thinkAnew 9 = .ok (.getfield 12, 3) := by decide +kernel
theorem dX2_thinkAnew_12 : decode cX2_thinkAnew 12 = .ok (.iload_n 3, 1) := by decide +kernel
theorem dX2_thinkAnew_13 : decode cX2_thinkAnew 13 = .ok (.ldc 22, 2) := by decide +kernel
theorem dX2_thinkAnew_15 : decode cX2_thinkAnew 15 = .ok (.iload_n 2, 1) := by decide +kernel
theorem dX2_thinkAnew_16 : decode cX2_thinkAnew 16 = .ok (.invokestatic 34, 3) := by decide +kernel
theorem dX2_thinkAnew_19 : decode cX2_thinkAnew 19 = .ok (.iconst (-1), 1) := by decide +kernel
theorem dX2_thinkAnew_20 : decode cX2_thinkAnew 20 = .ok (.ixor, 1) := by decide +kernel
theorem dX2_thinkAnew_21 : decode cX2_thinkAnew 21 = .ok (.iand, 1) := by decide +kernel
theorem dX2_thinkAnew_22 : decode cX2_thinkAnew 22 = .ok (.invokevirtual 23, 3) := by decide +kernel
theorem dX2_thinkAnew_25 : decode cX2_thinkAnew 25 = .ok (.iinc 3 1, 3) := by decide +kernel
theorem dX2_thinkAnew_28 : decode cX2_thinkAnew 28 = .ok (.goto (-26), 3) := by decide +kernel
theorem dX2_thinkAnew_31 : decode cX2_thinkAnew 31 = .ok (.aload_n 0, 1) := by decide +kernel
theorem dX2_thinkAnew_32 : decode cX2_thinkAnew 32 = .ok (.getfield 12, 3) := by decide +kernel
theorem dX2_thinkAnew_35 : decode cX2_thinkAnew 35 = .ok (.iload_n 1, 1) := by decide +kernel
theorem dX2_thinkAnew_36 : decode cX2_thinkAnew 36 = .ok (.iload_n 2, 1) := by decide +kernel
theorem dX2_thinkAnew_37 : decode cX2_thinkAnew 37 = .ok (.invokestatic 34, 3) := by decide +kernel
theorem dX2_thinkAnew_40 : decode cX2_thinkAnew 40 = .ok (.invokevirtual 23, 3) := by decide +kernel
theorem dX2_thinkAnew_43 : decode cX2_thinkAnew 43 = .ok (.return_, 1) := by decide +kernel
set_option maxRecDepth 20000 in
theorem ggX2_placesHeldPossible_X1_at : GoodIn wsX2_placesHeldPossible wsX1_at := goodIn_r _ [6, 7, 8, 9, 10, 17, 18] (by decide +kernel) (by decide +kernel)
set_option maxRecDepth 20000 in
theorem gX2_placesHeldPossible_X1_at : GoodIn wsX2_placesHeldPossible (wsV RX2 48 RX1 yX1_at wsX1_at) := goodIn_app (goodIn_of _ (by decide +kernel)) ggX2_placesHeldPossible_X1_at
set_option maxRecDepth 20000 in
theorem ggX2_placesHeldPossible_X3_setOf : GoodIn wsX2_placesHeldPossible wsX3_setOf := goodIn_r _ [12] (by decide +kernel) (by decide +kernel)
set_option maxRecDepth 20000 in
theorem gX2_placesHeldPossible_X3_setOf_n34 : GoodIn wsX2_placesHeldPossible (wsX3_setOf) := ggX2_placesHeldPossible_X3_setOf
theorem dX2_placesHeldPossible_0 : decode cX2_placesHeldPossible 0 = .ok (.iconst 0, 1) := by decide +kernel
theorem dX2_placesHeldPossible_1 : decode cX2_placesHeldPossible 1 = .ok (.istore_n 2, 1) := by decide +kernel
theorem dX2_placesHeldPossible_2 : decode cX2_placesHeldPossible 2 = .ok (.iconst 0, 1) := by decide +kernel
theorem dX2_placesHeldPossible_3 : decode cX2_placesHeldPossible 3 = .ok (.istore_n 3, 1) := by decide +kernel
theorem dX2_placesHeldPossible_4 : decode cX2_placesHeldPossible 4 = .ok (.iload_n 3, 1) := by decide +kernel
theorem dX2_placesHeldPossible_5 : decode cX2_placesHeldPossible 5 = .ok (.bipush 16, 2) := by decide +kernel
theorem dX2_placesHeldPossible_7 : decode cX2_placesHeldPossible 7 = .ok (.if_icmp .ge 32, 3) := by decide +kernel
theorem dX2_placesHeldPossible_10 : decode cX2_placesHeldPossible 10 = .ok (.aload_n 0, 1) := by decide +kernel
theorem dX2_placesHeldPossible_11 : decode cX2_placesHeldPossible 11 = .ok (.getfield 12, 3) := by decide +kernel
theorem dX2_placesHeldPossible_14 : decode cX2_placesHeldPossible 14 = .ok (.iload_n 3, 1) := by decide +kernel
theorem dX2_placesHeldPossible_15 : decode cX2_placesHeldPossible 15 = .ok (.invokevirtual 48, 3) := by decide +kernel
theorem dX2_placesHeldPossible_18 : decode cX2_placesHeldPossible 18 = .ok (.aload_n 1, 1) := by decide +kernel
theorem dX2_placesHeldPossible_19 : decode cX2_placesHeldPossible 19 = .ok (.iload_n 3, 1) := by decide +kernel
theorem dX2_placesHeldPossible_20 : decode cX2_placesHeldPossible 20 = .ok (.invokevirtual 48, 3) := by decide +kernel
theorem dX2_placesHeldPossible_23 : decode cX2_placesHeldPossible 23 = .ok (.invokestatic 34, 3) := by decide +kernel
theorem dX2_placesHeldPossible_26 : decode cX2_placesHeldPossible 26 = .ok (.iand, 1) := by decide +kernel
theorem dX2_placesHeldPossible_27 : decode cX2_placesHeldPossible 27 = .ok (.ifCond .eq 6, 3) := by decide +kernel
theorem dX2_placesHeldPossible_30 : decode cX2_placesHeldPossible 30 = .ok (.iinc 2 1, 3) := by decide +kernel
theorem dX2_placesHeldPossible_33 : decode cX2_placesHeldPossible 33 = .ok (.iinc 3 1, 3) := by decide +kernel
theorem dX2_placesHeldPossible_36 : decode cX2_placesHeldPossible 36 = .ok (.goto (-32), 3) := by decide +kernel
theorem dX2_placesHeldPossible_39 : decode cX2_placesHeldPossible 39 = .ok (.iload_n 2, 1) := by decide +kernel
theorem dX2_placesHeldPossible_40 : decode cX2_placesHeldPossible 40 = .ok (.ireturn, 1) := by decide +kernel
set_option maxRecDepth 20000 in
theorem ggX2_placesSettled_X1_at : GoodIn wsX2_placesSettled wsX1_at := goodIn_r _ [6, 7, 8, 9, 10, 24, 25] (by decide +kernel) (by decide +kernel)
set_option maxRecDepth 20000 in
theorem gX2_placesSettled_X1_at : GoodIn wsX2_placesSettled (wsV RX2 48 RX1 yX1_at wsX1_at) := goodIn_app (goodIn_of _ (by decide +kernel)) ggX2_placesSettled_X1_at
set_option maxRecDepth 20000 in
theorem ggX2_placesSettled_X3_isOneAlone : GoodIn wsX2_placesSettled wsX3_isOneAlone := goodIn_r _ [12, 13, 14, 15, 16, 17, 18, 19] (by decide +kernel) (by decide +kernel)
set_option maxRecDepth 20000 in
theorem gX2_placesSettled_X3_isOneAlone_n51 : GoodIn wsX2_placesSettled (wsX3_isOneAlone) := ggX2_placesSettled_X3_isOneAlone
theorem dX2_placesSettled_0 : decode cX2_placesSettled 0 = .ok (.iconst 0, 1) := by decide +kernel
theorem dX2_placesSettled_1 : decode cX2_placesSettled 1 = .ok (.istore_n 1, 1) := by decide +kernel
theorem dX2_placesSettled_2 : decode cX2_placesSettled 2 = .ok (.iconst 0, 1) := by decide +kernel
theorem dX2_placesSettled_3 : decode cX2_placesSettled 3 = .ok (.istore_n 2, 1) := by decide +kernel
theorem dX2_placesSettled_4 : decode cX2_placesSettled 4 = .ok (.iload_n 2, 1) := by decide +kernel
theorem dX2_placesSettled_5 : decode cX2_placesSettled 5 = .ok (.bipush 16, 2) := by decide +kernel
theorem dX2_placesSettled_7 : decode cX2_placesSettled 7 = .ok (.if_icmp .ge 26, 3) := by decide +kernel
theorem dX2_placesSettled_10 : decode cX2_placesSettled 10 = .ok (.aload_n 0, 1) := by decide +kernel
theorem dX2_placesSettled_11 : decode cX2_placesSettled 11 = .ok (.getfield 12, 3) := by decide +kernel
theorem dX2_placesSettled_14 : decode cX2_placesSettled 14 = .ok (.iload_n 2, 1) := by decide +kernel
theorem dX2_placesSettled_15 : decode cX2_placesSettled 15 = .ok (.invokevirtual 48, 3) := by decide +kernel
theorem dX2_placesSettled_18 : decode cX2_placesSettled 18 = .ok (.invokestatic 51, 3) := by decide +kernel
theorem dX2_placesSettled_21 : decode cX2_placesSettled 21 = .ok (.ifCond .eq 6, 3) := by decide +kernel
theorem dX2_placesSettled_24 : decode cX2_placesSettled 24 = .ok (.iinc 1 1, 3) := by decide +kernel
theorem dX2_placesSettled_27 : decode cX2_placesSettled 27 = .ok (.iinc 2 1, 3) := by decide +kernel
theorem dX2_placesSettled_30 : decode cX2_placesSettled 30 = .ok (.goto (-26), 3) := by decide +kernel
theorem dX2_placesSettled_33 : decode cX2_placesSettled 33 = .ok (.iload_n 1, 1) := by decide +kernel
theorem dX2_placesSettled_34 : decode cX2_placesSettled 34 = .ok (.ireturn, 1) := by decide +kernel
set_option maxRecDepth 20000 in
theorem ggX2_placesSettledRightly_X1_at : GoodIn wsX2_placesSettledRightly wsX1_at := goodIn_r _ [6, 7, 8, 9, 10, 17, 18] (by decide +kernel) (by decide +kernel)
set_option maxRecDepth 20000 in
theorem gX2_placesSettledRightly_X1_at : GoodIn wsX2_placesSettledRightly (wsV RX2 48 RX1 yX1_at wsX1_at) := goodIn_app (goodIn_of _ (by decide +kernel)) ggX2_placesSettledRightly_X1_at
set_option maxRecDepth 20000 in
theorem ggX2_placesSettledRightly_X3_setOf : GoodIn wsX2_placesSettledRightly wsX3_setOf := goodIn_r _ [12] (by decide +kernel) (by decide +kernel)
set_option maxRecDepth 20000 in
theorem gX2_placesSettledRightly_X3_setOf_n34 : GoodIn wsX2_placesSettledRightly (wsX3_setOf) := ggX2_placesSettledRightly_X3_setOf
theorem dX2_placesSettledRightly_0 : decode cX2_placesSettledRightly 0 = .ok (.iconst 0, 1) := by decide +kernel
theorem dX2_placesSettledRightly_1 : decode cX2_placesSettledRightly 1 = .ok (.istore_n 2, 1) := by decide +kernel
theorem dX2_placesSettledRightly_2 : decode cX2_placesSettledRightly 2 = .ok (.iconst 0, 1) := by decide +kernel
theorem dX2_placesSettledRightly_3 : decode cX2_placesSettledRightly 3 = .ok (.istore_n 3, 1) := by decide +kernel
theorem dX2_placesSettledRightly_4 : decode cX2_placesSettledRightly 4 = .ok (.iload_n 3, 1) := by decide +kernel
theorem dX2_placesSettledRightly_5 : decode cX2_placesSettledRightly 5 = .ok (.bipush 16, 2) := by decide +kernel
theorem dX2_placesSettledRightly_7 : decode cX2_placesSettledRightly 7 = .ok (.if_icmp .ge 31, 3) := by decide +kernel
theorem dX2_placesSettledRightly_10 : decode cX2_placesSettledRightly 10 = .ok (.aload_n 0, 1) := by decide +kernel
theorem dX2_placesSettledRightly_11 : decode cX2_placesSettledRightly 11 = .ok (.getfield 12, 3) := by decide +kernel
theorem dX2_placesSettledRightly_14 : decode cX2_placesSettledRightly 14 = .ok (.iload_n 3, 1) := by decide +kernel
theorem dX2_placesSettledRightly_15 : decode cX2_placesSettledRightly 15 = .ok (.invokevirtual 48, 3) := by decide +kernel
theorem dX2_placesSettledRightly_18 : decode cX2_placesSettledRightly 18 = .ok (.aload_n 1, 1) := by decide +kernel
theorem dX2_placesSettledRightly_19 : decode cX2_placesSettledRightly 19 = .ok (.iload_n 3, 1) := by decide +kernel
theorem dX2_placesSettledRightly_20 : decode cX2_placesSettledRightly 20 = .ok (.invokevirtual 48, 3) := by decide +kernel
theorem dX2_placesSettledRightly_23 : decode cX2_placesSettledRightly 23 = .ok (.invokestatic 34, 3) := by decide +kernel
theorem dX2_placesSettledRightly_26 : decode cX2_placesSettledRightly 26 = .ok (.if_icmp .ne 6, 3) := by decide +kernel
theorem dX2_placesSettledRightly_29 : decode cX2_placesSettledRightly 29 = .ok (.iinc 2 1, 3) := by decide +kernel
theorem dX2_placesSettledRightly_32 : decode cX2_placesSettledRightly 32 = .ok (.iinc 3 1, 3) := by decide +kernel
theorem dX2_placesSettledRightly_35 : decode cX2_placesSettledRightly 35 = .ok (.goto (-31), 3) := by decide +kernel
theorem dX2_placesSettledRightly_38 : decode cX2_placesSettledRightly 38 = .ok (.iload_n 2, 1) := by decide +kernel
theorem dX2_placesSettledRightly_39 : decode cX2_placesSettledRightly 39 = .ok (.ireturn, 1) := by decide +kernel
set_option maxRecDepth 20000 in
theorem ggX2_cardsThought_X1_at : GoodIn wsX2_cardsThought wsX1_at := goodIn_r _ [6, 7, 8, 9, 10, 22, 23] (by decide +kernel) (by decide +kernel)
set_option maxRecDepth 20000 in
theorem gX2_cardsThought_X1_at : GoodIn wsX2_cardsThought (wsV RX2 48 RX1 yX1_at wsX1_at) := goodIn_app (goodIn_of _ (by decide +kernel)) ggX2_cardsThought_X1_at
set_option maxRecDepth 20000 in
theorem ggX2_cardsThought_J6_bitCount_0f7a4 : GoodIn wsX2_cardsThought wsJ6_bitCount_0f7a4 := goodIn_r _ [14, 15, 16, 17] (by decide +kernel) (by decide +kernel)
set_option maxRecDepth 20000 in
theorem gX2_cardsThought_J6_bitCount_0f7a4 : GoodIn wsX2_cardsThought (va_wsS RX2 61 yJ6_bitCount_0f7a4 wsJ6_bitCount_0f7a4) := goodIn_app (goodIn_of _ (by decide +kernel)) ggX2_cardsThought_J6_bitCount_0f7a4
theorem dX2_cardsThought_0 : decode cX2_cardsThought 0 = .ok (.iconst 0, 1) := by decide +kernel
theorem dX2_cardsThought_1 : decode cX2_cardsThought 1 = .ok (.istore_n 1, 1) := by decide +kernel
theorem dX2_cardsThought_2 : decode cX2_cardsThought 2 = .ok (.iconst 0, 1) := by decide +kernel
theorem dX2_cardsThought_3 : decode cX2_cardsThought 3 = .ok (.istore_n 2, 1) := by decide +kernel
theorem dX2_cardsThought_4 : decode cX2_cardsThought 4 = .ok (.iload_n 2, 1) := by decide +kernel
theorem dX2_cardsThought_5 : decode cX2_cardsThought 5 = .ok (.bipush 16, 2) := by decide +kernel
theorem dX2_cardsThought_7 : decode cX2_cardsThought 7 = .ok (.if_icmp .ge 23, 3) := by decide +kernel
theorem dX2_cardsThought_10 : decode cX2_cardsThought 10 = .ok (.iload_n 1, 1) := by decide +kernel
theorem dX2_cardsThought_11 : decode cX2_cardsThought 11 = .ok (.aload_n 0, 1) := by decide +kernel
theorem dX2_cardsThought_12 : decode cX2_cardsThought 12 = .ok (.getfield 12, 3) := by decide +kernel
theorem dX2_cardsThought_15 : decode cX2_cardsThought 15 = .ok (.iload_n 2, 1) := by decide +kernel
theorem dX2_cardsThought_16 : decode cX2_cardsThought 16 = .ok (.invokevirtual 48, 3) := by decide +kernel
theorem dX2_cardsThought_19 : decode cX2_cardsThought 19 = .ok (.invokestatic 61, 3) := by decide +kernel
theorem dX2_cardsThought_22 : decode cX2_cardsThought 22 = .ok (.iadd, 1) := by decide +kernel
theorem dX2_cardsThought_23 : decode cX2_cardsThought 23 = .ok (.istore_n 1, 1) := by decide +kernel
theorem dX2_cardsThought_24 : decode cX2_cardsThought 24 = .ok (.iinc 2 1, 3) := by decide +kernel
theorem dX2_cardsThought_27 : decode cX2_cardsThought 27 = .ok (.goto (-23), 3) := by decide +kernel
theorem dX2_cardsThought_30 : decode cX2_cardsThought 30 = .ok (.iload_n 1, 1) := by decide +kernel
theorem dX2_cardsThought_31 : decode cX2_cardsThought 31 = .ok (.ireturn, 1) := by decide +kernel
theorem dJ6_bitCount_0f7a4_0 : decode cJ6_bitCount_0f7a4 0 = .ok (.iload_n 0, 1) := by decide +kernel
theorem dJ6_bitCount_0f7a4_1 : decode cJ6_bitCount_0f7a4 1 = .ok (.iload_n 0, 1) := by decide +kernel
theorem dJ6_bitCount_0f7a4_2 : decode cJ6_bitCount_0f7a4 2 = .ok (.iconst 1, 1) := by decide +kernel
theorem dJ6_bitCount_0f7a4_3 : decode cJ6_bitCount_0f7a4 3 = .ok (.iushr, 1) := by decide +kernel
theorem dJ6_bitCount_0f7a4_4 : decode cJ6_bitCount_0f7a4 4 = .ok (.ldc_w 265, 3) := by decide +kernel
theorem dJ6_bitCount_0f7a4_7 : decode cJ6_bitCount_0f7a4 7 = .ok (.iand, 1) := by decide +kernel
theorem dJ6_bitCount_0f7a4_8 : decode cJ6_bitCount_0f7a4 8 = .ok (.isub, 1) := by decide +kernel
theorem dJ6_bitCount_0f7a4_9 : decode cJ6_bitCount_0f7a4 9 = .ok (.istore_n 0, 1) := by decide +kernel
theorem dJ6_bitCount_0f7a4_10 : decode cJ6_bitCount_0f7a4 10 = .ok (.iload_n 0, 1) := by decide +kernel
theorem dJ6_bitCount_0f7a4_11 : decode cJ6_bitCount_0f7a4 11 = .ok (.ldc_w 266, 3) := by decide +kernel
theorem dJ6_bitCount_0f7a4_14 : decode cJ6_bitCount_0f7a4 14 = .ok (.iand, 1) := by decide +kernel
theorem dJ6_bitCount_0f7a4_15 : decode cJ6_bitCount_0f7a4 15 = .ok (.iload_n 0, 1) := by decide +kernel
theorem dJ6_bitCount_0f7a4_16 : decode cJ6_bitCount_0f7a4 16 = .ok (.iconst 2, 1) := by decide +kernel
theorem dJ6_bitCount_0f7a4_17 : decode cJ6_bitCount_0f7a4 17 = .ok (.iushr, 1) := by decide +kernel
theorem dJ6_bitCount_0f7a4_18 : decode cJ6_bitCount_0f7a4 18 = .ok (.ldc_w 266, 3) := by decide +kernel
theorem dJ6_bitCount_0f7a4_21 : decode cJ6_bitCount_0f7a4 21 = .ok (.iand, 1) := by decide +kernel
theorem dJ6_bitCount_0f7a4_22 : decode cJ6_bitCount_0f7a4 22 = .ok (.iadd, 1) := by decide +kernel
theorem dJ6_bitCount_0f7a4_23 : decode cJ6_bitCount_0f7a4 23 = .ok (.istore_n 0, 1) := by decide +kernel
theorem dJ6_bitCount_0f7a4_24 : decode cJ6_bitCount_0f7a4 24 = .ok (.iload_n 0, 1) := by decide +kernel
theorem dJ6_bitCount_0f7a4_25 : decode cJ6_bitCount_0f7a4 25 = .ok (.iload_n 0, 1) := by decide +kernel
theorem dJ6_bitCount_0f7a4_26 : decode cJ6_bitCount_0f7a4 26 = .ok (.iconst 4, 1) := by decide +kernel
theorem dJ6_bitCount_0f7a4_27 : decode cJ6_bitCount_0f7a4 27 = .ok (.iushr, 1) := by decide +kernel
theorem dJ6_bitCount_0f7a4_28 : decode cJ6_bitCount_0f7a4 28 = .ok (.iadd, 1) := by decide +kernel
theorem dJ6_bitCount_0f7a4_29 : decode cJ6_bitCount_0f7a4 29 = .ok (.ldc_w 267, 3) := by decide +kernel
theorem dJ6_bitCount_0f7a4_32 : decode cJ6_bitCount_0f7a4 32 = .ok (.iand, 1) := by decide +kernel
theorem dJ6_bitCount_0f7a4_33 : decode cJ6_bitCount_0f7a4 33 = .ok (.istore_n 0, 1) := by decide +kernel
theorem dJ6_bitCount_0f7a4_34 : decode cJ6_bitCount_0f7a4 34 = .ok (.iload_n 0, 1) := by decide +kernel
theorem dJ6_bitCount_0f7a4_35 : decode cJ6_bitCount_0f7a4 35 = .ok (.iload_n 0, 1) := by decide +kernel
theorem dJ6_bitCount_0f7a4_36 : decode cJ6_bitCount_0f7a4 36 = .ok (.bipush 8, 2) := by decide +kernel
theorem dJ6_bitCount_0f7a4_38 : decode cJ6_bitCount_0f7a4 38 = .ok (.iushr, 1) := by decide +kernel
theorem dJ6_bitCount_0f7a4_39 : decode cJ6_bitCount_0f7a4 39 = .ok (.iadd, 1) := by decide +kernel
theorem dJ6_bitCount_0f7a4_40 : decode cJ6_bitCount_0f7a4 40 = .ok (.istore_n 0, 1) := by decide +kernel
theorem dJ6_bitCount_0f7a4_41 : decode cJ6_bitCount_0f7a4 41 = .ok (.iload_n 0, 1) := by decide +kernel
theorem dJ6_bitCount_0f7a4_42 : decode cJ6_bitCount_0f7a4 42 = .ok (.iload_n 0, 1) := by decide +kernel
theorem dJ6_bitCount_0f7a4_43 : decode cJ6_bitCount_0f7a4 43 = .ok (.bipush 16, 2) := by decide +kernel
theorem dJ6_bitCount_0f7a4_45 : decode cJ6_bitCount_0f7a4 45 = .ok (.iushr, 1) := by decide +kernel
theorem dJ6_bitCount_0f7a4_46 : decode cJ6_bitCount_0f7a4 46 = .ok (.iadd, 1) := by decide +kernel
theorem dJ6_bitCount_0f7a4_47 : decode cJ6_bitCount_0f7a4 47 = .ok (.istore_n 0, 1) := by decide +kernel
theorem dJ6_bitCount_0f7a4_48 : decode cJ6_bitCount_0f7a4 48 = .ok (.iload_n 0, 1) := by decide +kernel
theorem dJ6_bitCount_0f7a4_49 : decode cJ6_bitCount_0f7a4 49 = .ok (.bipush 63, 2) := by decide +kernel
theorem dJ6_bitCount_0f7a4_51 : decode cJ6_bitCount_0f7a4 51 = .ok (.iand, 1) := by decide +kernel
theorem dJ6_bitCount_0f7a4_52 : decode cJ6_bitCount_0f7a4 52 = .ok (.ireturn, 1) := by decide +kernel
theorem dJ9_floorMod_7cf53_0 : decode cJ9_floorMod_7cf53 0 = .ok (.iload_n 0, 1) := by decide +kernel
theorem dJ9_floorMod_7cf53_1 : decode cJ9_floorMod_7cf53 1 = .ok (.iload_n 1, 1) := by decide +kernel
theorem dJ9_floorMod_7cf53_2 : decode cJ9_floorMod_7cf53 2 = .ok (.irem, 1) := by decide +kernel
theorem dJ9_floorMod_7cf53_3 : decode cJ9_floorMod_7cf53 3 = .ok (.istore_n 2, 1) := by decide +kernel
theorem dJ9_floorMod_7cf53_4 : decode cJ9_floorMod_7cf53 4 = .ok (.iload_n 0, 1) := by decide +kernel
theorem dJ9_floorMod_7cf53_5 : decode cJ9_floorMod_7cf53 5 = .ok (.iload_n 1, 1) := by decide +kernel
theorem dJ9_floorMod_7cf53_6 : decode cJ9_floorMod_7cf53 6 = .ok (.ixor, 1) := by decide +kernel
theorem dJ9_floorMod_7cf53_7 : decode cJ9_floorMod_7cf53 7 = .ok (.ifCond .ge 11, 3) := by decide +kernel
theorem dJ9_floorMod_7cf53_10 : decode cJ9_floorMod_7cf53 10 = .ok (.iload_n 2, 1) := by decide +kernel
theorem dJ9_floorMod_7cf53_11 : decode cJ9_floorMod_7cf53 11 = .ok (.ifCond .eq 7, 3) := by decide +kernel
theorem dJ9_floorMod_7cf53_14 : decode cJ9_floorMod_7cf53 14 = .ok (.iload_n 2, 1) := by decide +kernel
theorem dJ9_floorMod_7cf53_15 : decode cJ9_floorMod_7cf53 15 = .ok (.iload_n 1, 1) := by decide +kernel
theorem dJ9_floorMod_7cf53_16 : decode cJ9_floorMod_7cf53 16 = .ok (.iadd, 1) := by decide +kernel
theorem dJ9_floorMod_7cf53_17 : decode cJ9_floorMod_7cf53 17 = .ok (.ireturn, 1) := by decide +kernel
theorem dJ9_floorMod_7cf53_18 : decode cJ9_floorMod_7cf53 18 = .ok (.iload_n 2, 1) := by decide +kernel
theorem dJ9_floorMod_7cf53_19 : decode cJ9_floorMod_7cf53 19 = .ok (.ireturn, 1) := by decide +kernel
