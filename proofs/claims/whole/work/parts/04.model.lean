set_option maxRecDepth 20000 in
theorem ggX2_init_X2_clear : GoodIn wsX2_init wsX2_clear := goodIn_r _ [10, 11, 12, 13, 14, 15, 16, 17, 18, 19, 9, 20, 5, 21, 22, 23, 24, 25] (by decide +kernel) (by decide +kernel)
set_option maxRecDepth 20000 in
theorem gX2_init_X2_clear : GoodIn wsX2_init (wsV RX2 13 RX2 yX2_clear wsX2_clear) := goodIn_app (goodIn_of _ (by decide +kernel)) ggX2_init_X2_clear
theorem dX2_init_0 : decode cX2_init 0 = .ok (.aload_n 0, 1) := by decide +kernel
theorem dX2_init_1 : decode cX2_init 1 = .ok (.invokespecial 1, 3) := by decide +kernel
theorem dX2_init_4 : decode cX2_init 4 = .ok (.aload_n 0, 1) := by decide +kernel
theorem dX2_init_5 : decode cX2_init 5 = .ok (.sipush 187, 3) := by decide +kernel
theorem dX2_init_8 : decode cX2_init 8 = .ok (.newarray .int, 2) := by decide +kernel
theorem dX2_init_10 : decode cX2_init 10 = .ok (.putfield 9, 3) := by decide +kernel
theorem dX2_init_13 : decode cX2_init 13 = .ok (.aload_n 0, 1) := by decide +kernel
theorem dX2_init_14 : decode cX2_init 14 = .ok (.invokevirtual 13, 3) := by decide +kernel
theorem dX2_init_17 : decode cX2_init 17 = .ok (.return_, 1) := by decide +kernel
set_option maxRecDepth 20000 in
theorem ggX2_clear_X2_add : GoodIn wsX2_clear wsX2_add := goodIn_r _ [11, 3, 6, 2, 12, 13, 14, 15, 16, 17] (by decide +kernel) (by decide +kernel)
set_option maxRecDepth 20000 in
theorem gX2_clear_X2_add : GoodIn wsX2_clear (wsV RX2 25 RX2 yX2_add wsX2_add) := goodIn_app (goodIn_of _ (by decide +kernel)) ggX2_clear_X2_add
theorem dX2_clear_0 : decode cX2_clear 0 = .ok (.aload_n 0, 1) := by decide +kernel
theorem dX2_clear_1 : decode cX2_clear 1 = .ok (.iconst 0, 1) := by decide +kernel
theorem dX2_clear_2 : decode cX2_clear 2 = .ok (.putfield 16, 3) := by decide +kernel
theorem dX2_clear_5 : decode cX2_clear 5 = .ok (.aload_n 0, 1) := by decide +kernel
theorem dX2_clear_6 : decode cX2_clear 6 = .ok (.iconst 0, 1) := by decide +kernel
theorem dX2_clear_7 : decode cX2_clear 7 = .ok (.putfield 20, 3) := by decide +kernel
theorem dX2_clear_10 : decode cX2_clear 10 = .ok (.aload_n 0, 1) := by decide +kernel
theorem dX2_clear_11 : decode cX2_clear 11 = .ok (.ldc2_w 23, 3) := by decide +kernel
theorem dX2_clear_14 : decode cX2_clear 14 = .ok (.invokevirtual 25, 3) := by decide +kernel
theorem dX2_clear_17 : decode cX2_clear 17 = .ok (.aload_n 0, 1) := by decide +kernel
theorem dX2_clear_18 : decode cX2_clear 18 = .ok (.ldc2_w 29, 3) := by decide +kernel
theorem dX2_clear_21 : decode cX2_clear 21 = .ok (.invokevirtual 25, 3) := by decide +kernel
theorem dX2_clear_24 : decode cX2_clear 24 = .ok (.iconst (-1), 1) := by decide +kernel
theorem dX2_clear_25 : decode cX2_clear 25 = .ok (.istore_n 1, 1) := by decide +kernel
theorem dX2_clear_26 : decode cX2_clear 26 = .ok (.iload_n 1, 1) := by decide +kernel
theorem dX2_clear_27 : decode cX2_clear 27 = .ok (.iconst 2, 1) := by decide +kernel
theorem dX2_clear_28 : decode cX2_clear 28 = .ok (.if_icmp .ge 15, 3) := by decide +kernel
theorem dX2_clear_31 : decode cX2_clear 31 = .ok (.aload_n 0, 1) := by decide +kernel
theorem dX2_clear_32 : decode cX2_clear 32 = .ok (.iload_n 1, 1) := by decide +kernel
theorem dX2_clear_33 : decode cX2_clear 33 = .ok (.i2l, 1) := by decide +kernel
theorem dX2_clear_34 : decode cX2_clear 34 = .ok (.invokevirtual 25, 3) := by decide +kernel
theorem dX2_clear_37 : decode cX2_clear 37 = .ok (.iinc 1 1, 3) := by decide +kernel
theorem dX2_clear_40 : decode cX2_clear 40 = .ok (.goto (-14), 3) := by decide +kernel
theorem dX2_clear_43 : decode cX2_clear 43 = .ok (.aload_n 0, 1) := by decide +kernel
theorem dX2_clear_44 : decode cX2_clear 44 = .ok (.ldc2_w 31, 3) := by decide +kernel
theorem dX2_clear_47 : decode cX2_clear 47 = .ok (.invokevirtual 25, 3) := by decide +kernel
theorem dX2_clear_50 : decode cX2_clear 50 = .ok (.aload_n 0, 1) := by decide +kernel
theorem dX2_clear_51 : decode cX2_clear 51 = .ok (.ldc2_w 33, 3) := by decide +kernel
theorem dX2_clear_54 : decode cX2_clear 54 = .ok (.invokevirtual 25, 3) := by decide +kernel
theorem dX2_clear_57 : decode cX2_clear 57 = .ok (.return_, 1) := by decide +kernel
theorem dX2_add_0 : decode cX2_add 0 = .ok (.lload_n 1, 1) := by decide +kernel
theorem dX2_add_1 : decode cX2_add 1 = .ok (.ldc2_w 23, 3) := by decide +kernel
theorem dX2_add_4 : decode cX2_add 4 = .ok (.lcmp, 1) := by decide +kernel
theorem dX2_add_5 : decode cX2_add 5 = .ok (.ifCond .lt 11, 3) := by decide +kernel
theorem dX2_add_8 : decode cX2_add 8 = .ok (.lload_n 1, 1) := by decide +kernel
theorem dX2_add_9 : decode cX2_add 9 = .ok (.ldc2_w 33, 3) := by decide +kernel
theorem dX2_add_12 : decode cX2_add 12 = .ok (.lcmp, 1) := by decide +kernel
theorem dX2_add_13 : decode cX2_add 13 = .ok (.ifCond .le 4, 3) := by decide +kernel
theorem dX2_add_16 : decode cX2_add 16 = .ok (.return_, 1) := by decide +kernel
theorem dX2_add_17 : decode cX2_add 17 = .ok (.iconst 0, 1) := by decide +kernel
theorem dX2_add_18 : decode cX2_add 18 = .ok (.istore_n 3, 1) := by decide +kernel
theorem dX2_add_19 : decode cX2_add 19 = .ok (.iload_n 3, 1) := by decide +kernel
theorem dX2_add_20 : decode cX2_add 20 = .ok (.aload_n 0, 1) := by decide +kernel
theorem dX2_add_21 : decode cX2_add 21 = .ok (.getfield 20, 3) := by decide +kernel
theorem dX2_add_24 : decode cX2_add 24 = .ok (.if_icmp .ge 22, 3) := by decide +kernel
theorem dX2_add_27 : decode cX2_add 27 = .ok (.aload_n 0, 1) := by decide +kernel
theorem dX2_add_28 : decode cX2_add 28 = .ok (.getfield 9, 3) := by decide +kernel
theorem dX2_add_31 : decode cX2_add 31 = .ok (.iload_n 3, 1) := by decide +kernel
theorem dX2_add_32 : decode cX2_add 32 = .ok (.iaload, 1) := by decide +kernel
theorem dX2_add_33 : decode cX2_add 33 = .ok (.i2l, 1) := by decide +kernel
theorem dX2_add_34 : decode cX2_add 34 = .ok (.lload_n 1, 1) := by decide +kernel
theorem dX2_add_35 : decode cX2_add 35 = .ok (.lcmp, 1) := by decide +kernel
theorem dX2_add_36 : decode cX2_add 36 = .ok (.ifCond .ne 4, 3) := by decide +kernel
theorem dX2_add_39 : decode cX2_add 39 = .ok (.return_, 1) := by decide +kernel
theorem dX2_add_40 : decode cX2_add 40 = .ok (.iinc 3 1, 3) := by decide +kernel
theorem dX2_add_43 : decode cX2_add 43 = .ok (.goto (-24), 3) := by decide +kernel
theorem dX2_add_46 : decode cX2_add 46 = .ok (.aload_n 0, 1) := by decide +kernel
theorem dX2_add_47 : decode cX2_add 47 = .ok (.getfield 9, 3) := by decide +kernel
theorem dX2_add_50 : decode cX2_add 50 = .ok (.aload_n 0, 1) := by decide +kernel
theorem dX2_add_51 : decode cX2_add 51 = .ok (.getfield 20, 3) := by decide +kernel
theorem dX2_add_54 : decode cX2_add 54 = .ok (.lload_n 1, 1) := by decide +kernel
theorem dX2_add_55 : decode cX2_add 55 = .ok (.l2i, 1) := by decide +kernel
theorem dX2_add_56 : decode cX2_add 56 = .ok (.iastore, 1) := by decide +kernel
theorem dX2_add_57 : decode cX2_add 57 = .ok (.aload_n 0, 1) := by decide +kernel
theorem dX2_add_58 : decode cX2_add 58 = .ok (.dup, 1) := by decide +kernel
theorem dX2_add_59 : decode cX2_add 59 = .ok (.getfield 20, 3) := by decide +kernel
theorem dX2_add_62 : decode cX2_add 62 = .ok (.iconst 1, 1) := by decide +kernel
theorem dX2_add_63 : decode cX2_add 63 = .ok (.iadd, 1) := by decide +kernel
theorem dX2_add_64 : decode cX2_add 64 = .ok (.putfield 20, 3) := by decide +kernel
theorem dX2_add_67 : decode cX2_add 67 = .ok (.return_, 1) := by decide +kernel
set_option maxRecDepth 20000 in
theorem ggX2_around_X2_add : GoodIn wsX2_around wsX2_add := goodIn_r _ [7, 8, 9, 2, 10, 11, 12, 13, 14, 15] (by decide +kernel) (by decide +kernel)
set_option maxRecDepth 20000 in
theorem gX2_around_X2_add : GoodIn wsX2_around (wsV RX2 25 RX2 yX2_add wsX2_add) := goodIn_app (goodIn_of _ (by decide +kernel)) ggX2_around_X2_add
theorem dX2_around_0 : decode cX2_around 0 = .ok (.aload_n 0, 1) := by decide +kernel
theorem dX2_around_1 : decode cX2_around 1 = .ok (.getfield 16, 3) := by decide +kernel
theorem dX2_around_4 : decode cX2_around 4 = .ok (.bipush 60, 2) := by decide +kernel
theorem dX2_around_6 : decode cX2_around 6 = .ok (.if_icmp .ne 5, 3) := by decide +kernel
theorem dX2_around_9 : decode cX2_around 9 = .ok (.iconst (-1), 1) := by decide +kernel
theorem dX2_around_10 : decode cX2_around 10 = .ok (.ireturn, 1) := by decide +kernel
theorem dX2_around_11 : decode cX2_around 11 = .ok (.aload_n 0, 1) := by decide +kernel
theorem dX2_around_12 : decode cX2_around 12 = .ok (.dup, 1) := by decide +kernel
theorem dX2_around_13 : decode cX2_around 13 = .ok (.getfield 16, 3) := by decide +kernel
theorem dX2_around_16 : decode cX2_around 16 = .ok (.iconst 1, 1) := by decide +kernel
theorem dX2_around_17 : decode cX2_around 17 = .ok (.iadd, 1) := by decide +kernel
theorem dX2_around_18 : decode cX2_around 18 = .ok (.putfield 16, 3) := by decide +kernel
theorem dX2_around_21 : decode cX2_around 21 = .ok (.iload_n 1, 1) := by decide +kernel
theorem dX2_around_22 : decode cX2_around 22 = .ok (.i2l, 1) := by decide +kernel
theorem dX2_around_23 : decode cX2_around 23 = .ok (.lconst 1, 1) := by decide +kernel
theorem dX2_around_24 : decode cX2_around 24 = .ok (.lsub, 1) := by decide +kernel
theorem dX2_around_25 : decode cX2_around 25 = .ok (.lstore_n 2, 1) := by decide +kernel
theorem dX2_around_26 : decode cX2_around 26 = .ok (.lload_n 2, 1) := by decide +kernel
theorem dX2_around_27 : decode cX2_around 27 = .ok (.iload_n 1, 1) := by decide +kernel
theorem dX2_around_28 : decode cX2_around 28 = .ok (.i2l, 1) := by decide +kernel
theorem dX2_around_29 : decode cX2_around 29 = .ok (.lconst 1, 1) := by decide +kernel
theorem dX2_around_30 : decode cX2_around 30 = .ok (.ladd, 1) := by decide +kernel
theorem dX2_around_31 : decode cX2_around 31 = .ok (.lcmp, 1) := by decide +kernel
theorem dX2_around_32 : decode cX2_around 32 = .ok (.ifCond .gt 15, 3) := by decide +kernel
theorem dX2_around_35 : decode cX2_around 35 = .ok (.aload_n 0, 1) := by decide +kernel
theorem dX2_around_36 : decode cX2_around 36 = .ok (.lload_n 2, 1) := by decide +kernel
theorem dX2_around_37 : decode cX2_around 37 = .ok (.invokevirtual 25, 3) := by decide +kernel
theorem dX2_around_40 : decode cX2_around 40 = .ok (.lload_n 2, 1) := by decide +kernel
theorem dX2_around_41 : decode cX2_around 41 = .ok (.lconst 1, 1) := by decide +kernel
theorem dX2_around_42 : decode cX2_around 42 = .ok (.ladd, 1) := by decide +kernel
theorem dX2_around_43 : decode cX2_around 43 = .ok (.lstore_n 2, 1) := by decide +kernel
theorem dX2_around_44 : decode cX2_around 44 = .ok (.goto (-18), 3) := by decide +kernel
theorem dX2_around_47 : decode cX2_around 47 = .ok (.aload_n 0, 1) := by decide +kernel
theorem dX2_around_48 : decode cX2_around 48 = .ok (.getfield 20, 3) := by decide +kernel
theorem dX2_around_51 : decode cX2_around 51 = .ok (.ireturn, 1) := by decide +kernel
theorem dX2_size_0 : decode cX2_size 0 = .ok (.aload_n 0, 1) := by decide +kernel
theorem dX2_size_1 : decode cX2_size 1 = .ok (.getfield 20, 3) := by decide +kernel
theorem dX2_size_4 : decode cX2_size 4 = .ok (.ireturn, 1) := by decide +kernel
theorem dX2_down_0 : decode cX2_down 0 = .ok (.ldc 35, 2) := by decide +kernel
theorem dX2_down_2 : decode cX2_down 2 = .ok (.istore_n 2, 1) := by decide +kernel
theorem dX2_down_3 : decode cX2_down 3 = .ok (.iconst 0, 1) := by decide +kernel
theorem dX2_down_4 : decode cX2_down 4 = .ok (.istore_n 3, 1) := by decide +kernel
theorem dX2_down_5 : decode cX2_down 5 = .ok (.iload_n 3, 1) := by decide +kernel
theorem dX2_down_6 : decode cX2_down 6 = .ok (.aload_n 0, 1) := by decide +kernel
theorem dX2_down_7 : decode cX2_down 7 = .ok (.getfield 20, 3) := by decide +kernel
theorem dX2_down_10 : decode cX2_down 10 = .ok (.if_icmp .ge 30, 3) := by decide +kernel
theorem dX2_down_13 : decode cX2_down 13 = .ok (.aload_n 0, 1) := by decide +kernel
theorem dX2_down_14 : decode cX2_down 14 = .ok (.getfield 9, 3) := by decide +kernel
theorem dX2_down_17 : decode cX2_down 17 = .ok (.iload_n 3, 1) := by decide +kernel
theorem dX2_down_18 : decode cX2_down 18 = .ok (.iaload, 1) := by decide +kernel
theorem dX2_down_19 : decode cX2_down 19 = .ok (.iload_n 1, 1) := by decide +kernel
theorem dX2_down_20 : decode cX2_down 20 = .ok (.if_icmp .gt 14, 3) := by decide +kernel
theorem dX2_down_23 : decode cX2_down 23 = .ok (.iload_n 2, 1) := by decide +kernel
theorem dX2_down_24 : decode cX2_down 24 = .ok (.aload_n 0, 1) := by decide +kernel
theorem dX2_down_25 : decode cX2_down 25 = .ok (.getfield 9, 3) := by decide +kernel
theorem dX2_down_28 : decode cX2_down 28 = .ok (.iload_n 3, 1) := by decide +kernel
theorem dX2_down_29 : decode cX2_down 29 = .ok (.iaload, 1) := by decide +kernel
theorem dX2_down_30 : decode cX2_down 30 = .ok (.invokestatic 36, 3) := by decide +kernel
theorem dX2_down_33 : decode cX2_down 33 = .ok (.istore_n 2, 1) := by decide +kernel
theorem dX2_down_34 : decode cX2_down 34 = .ok (.iinc 3 1, 3) := by decide +kernel
theorem dX2_down_37 : decode cX2_down 37 = .ok (.goto (-32), 3) := by decide +kernel
theorem dX2_down_40 : decode cX2_down 40 = .ok (.iload_n 2, 1) := by decide +kernel
theorem dX2_down_41 : decode cX2_down 41 = .ok (.ireturn, 1) := by decide +kernel
theorem dX2_up_0 : decode cX2_up 0 = .ok (.ldc 42, 2) := by decide +kernel
theorem dX2_up_2 : decode cX2_up 2 = .ok (.istore_n 2, 1) := by decide +kernel
theorem dX2_up_3 : decode cX2_up 3 = .ok (.iconst 0, 1) := by decide +kernel
theorem dX2_up_4 : decode cX2_up 4 = .ok (.istore_n 3, 1) := by decide +kernel
theorem dX2_up_5 : decode cX2_up 5 = .ok (.iload_n 3, 1) := by decide +kernel
theorem dX2_up_6 : decode cX2_up 6 = .ok (.aload_n 0, 1) := by decide +kernel
theorem dX2_up_7 : decode cX2_up 7 = .ok (.getfield 20, 3) := by decide +kernel
theorem dX2_up_10 : decode cX2_up 10 = .ok (.if_icmp .ge 30, 3) := by decide +kernel
theorem dX2_up_13 : decode cX2_up 13 = .ok (.aload_n 0, 1) := by decide +kernel
theorem dX2_up_14 : decode cX2_up 14 = .ok (.getfield 9, 3) := by decide +kernel
theorem dX2_up_17 : decode cX2_up 17 = .ok (.iload_n 3, 1) := by decide +kernel
theorem dX2_up_18 : decode cX2_up 18 = .ok (.iaload, 1) := by decide +kernel
theorem dX2_up_19 : decode cX2_up 19 = .ok (.iload_n 1, 1) := by decide +kernel
theorem dX2_up_20 : decode cX2_up 20 = .ok (.if_icmp .lt 14, 3) := by decide +kernel
theorem dX2_up_23 : decode cX2_up 23 = .ok (.iload_n 2, 1) := by decide +kernel
theorem dX2_up_24 : decode cX2_up 24 = .ok (.aload_n 0, 1) := by decide +kernel
theorem dX2_up_25 : decode cX2_up 25 = .ok (.getfield 9, 3) := by decide +kernel
theorem dX2_up_28 : decode cX2_up 28 = .ok (.iload_n 3, 1) := by decide +kernel
theorem dX2_up_29 : decode cX2_up 29 = .ok (.iaload, 1) := by decide +kernel
theorem dX2_up_30 : decode cX2_up 30 = .ok (.invokestatic 43, 3) := by decide +kernel
theorem dX2_up_33 : decode cX2_up 33 = .ok (.istore_n 2, 1) := by decide +kernel
theorem dX2_up_34 : decode cX2_up 34 = .ok (.iinc 3 1, 3) := by decide +kernel
theorem dX2_up_37 : decode cX2_up 37 = .ok (.goto (-32), 3) := by decide +kernel
theorem dX2_up_40 : decode cX2_up 40 = .ok (.iload_n 2, 1) := by decide +kernel
theorem dX2_up_41 : decode cX2_up 41 = .ok (.ireturn, 1) := by decide +kernel
set_option maxRecDepth 20000 in
theorem ggX2_isRange_X2_down : GoodIn wsX2_isRange wsX2_down := goodIn_r _ [5, 6, 7, 8, 9, 10, 11, 12, 21, 22, 23, 24, 25] (by decide +kernel) (by decide +kernel)
set_option maxRecDepth 20000 in
theorem gX2_isRange_X2_down : GoodIn wsX2_isRange (wsV RX2 46 RX2 yX2_down wsX2_down) := goodIn_app (goodIn_of _ (by decide +kernel)) ggX2_isRange_X2_down
set_option maxRecDepth 20000 in
theorem ggX2_isRange_X2_up : GoodIn wsX2_isRange wsX2_up := goodIn_r _ [16, 17, 7, 8, 18, 19, 11, 20, 21, 22, 23, 24, 25] (by decide +kernel) (by decide +kernel)
set_option maxRecDepth 20000 in
theorem gX2_isRange_X2_up : GoodIn wsX2_isRange (wsV RX2 50 RX2 yX2_up wsX2_up) := goodIn_app (goodIn_of _ (by decide +kernel)) ggX2_isRange_X2_up
theorem dX2_isRange_0 : decode cX2_isRange 0 = .ok (.iload_n 1, 1) := by decide +kernel
theorem dX2_isRange_1 : decode cX2_isRange 1 = .ok (.iload_n 2, 1) := by decide +kernel
theorem dX2_isRange_2 : decode cX2_isRange 2 = .ok (.if_icmp .gt 25, 3) := by decide +kernel
theorem dX2_isRange_5 : decode cX2_isRange 5 = .ok (.aload_n 0, 1) := by decide +kernel
theorem dX2_isRange_6 : decode cX2_isRange 6 = .ok (.iload_n 1, 1) := by decide +kernel
theorem dX2_isRange_7 : decode cX2_isRange 7 = .ok (.invokevirtual 46, 3) := by decide +kernel
theorem dX2_isRange_10 : decode cX2_isRange 10 = .ok (.iload_n 1, 1) := by decide +kernel
theorem dX2_isRange_11 : decode cX2_isRange 11 = .ok (.if_icmp .ne 16, 3) := by decide +kernel
theorem dX2_isRange_14 : decode cX2_isRange 14 = .ok (.aload_n 0, 1) := by decide +kernel
theorem dX2_isRange_15 : decode cX2_isRange 15 = .ok (.iload_n 2, 1) := by decide +kernel
theorem dX2_isRange_16 : decode cX2_isRange 16 = .ok (.invokevirtual 50, 3) := by decide +kernel
theorem dX2_isRange_19 : decode cX2_isRange 19 = .ok (.iload_n 2, 1) := by decide +kernel
theorem dX2_isRange_20 : decode cX2_isRange 20 = .ok (.if_icmp .ne 7, 3) := by decide +kernel
theorem dX2_isRange_23 : decode cX2_isRange 23 = .ok (.iconst 1, 1) := by decide +kernel
theorem dX2_isRange_24 : decode cX2_isRange 24 = .ok (.goto 4, 3) := by decide +kernel
theorem dX2_isRange_27 : decode cX2_isRange 27 = .ok (.iconst 0, 1) := by decide +kernel
theorem dX2_isRange_28 : decode cX2_isRange 28 = .ok (.ireturn, 1) := by decide +kernel
set_option maxRecDepth 20000 in
theorem ggX2_tell_X2_down : GoodIn wsX2_tell wsX2_down := goodIn_r _ [11, 3, 12, 13, 14, 15, 16, 17, 25, 26, 27, 28, 29] (by decide +kernel) (by decide +kernel)
set_option maxRecDepth 20000 in
theorem gX2_tell_X2_down : GoodIn wsX2_tell (wsV RX2 46 RX2 yX2_down wsX2_down) := goodIn_app (goodIn_of _ (by decide +kernel)) ggX2_tell_X2_down
set_option maxRecDepth 20000 in
theorem ggX2_tell_X2_up : GoodIn wsX2_tell wsX2_up := goodIn_r _ [21, 5, 12, 13, 22, 23, 16, 24, 25, 26, 27, 28, 29] (by decide +kernel) (by decide +kernel)
set_option maxRecDepth 20000 in
theorem gX2_tell_X2_up : GoodIn wsX2_tell (wsV RX2 50 RX2 yX2_up wsX2_up) := goodIn_app (goodIn_of _ (by decide +kernel)) ggX2_tell_X2_up
theorem dX2_tell_0 : decode cX2_tell 0 = .ok (.lload_n 1, 1) := by decide +kernel
theorem dX2_tell_1 : decode cX2_tell 1 = .ok (.ldc2_w 23, 3) := by decide +kernel
theorem dX2_tell_4 : decode cX2_tell 4 = .ok (.lcmp, 1) := by decide +kernel
theorem dX2_tell_5 : decode cX2_tell 5 = .ok (.ifCond .lt 15, 3) := by decide +kernel
theorem dX2_tell_8 : decode cX2_tell 8 = .ok (.lload_n 3, 1) := by decide +kernel
theorem dX2_tell_9 : decode cX2_tell 9 = .ok (.ldc2_w 33, 3) := by decide +kernel
theorem dX2_tell_12 : decode cX2_tell 12 = .ok (.lcmp, 1) := by decide +kernel
theorem dX2_tell_13 : decode cX2_tell 13 = .ok (.ifCond .gt 7, 3) := by decide +kernel
theorem dX2_tell_16 : decode cX2_tell 16 = .ok (.iconst 1, 1) := by decide +kernel
theorem dX2_tell_17 : decode cX2_tell 17 = .ok (.goto 4, 3) := by decide +kernel
theorem dX2_tell_20 : decode cX2_tell 20 = .ok (.iconst 0, 1) := by decide +kernel
theorem dX2_tell_21 : decode cX2_tell 21 = .ok (.istore 5, 2) := by decide +kernel
theorem dX2_tell_23 : decode cX2_tell 23 = .ok (.aload_n 0, 1) := by decide +kernel
theorem dX2_tell_24 : decode cX2_tell 24 = .ok (.iload 5, 2) := by decide +kernel
theorem dX2_tell_26 : decode cX2_tell 26 = .ok (.ifCond .eq 12, 3) := by decide +kernel
theorem dX2_tell_29 : decode cX2_tell 29 = .ok (.aload_n 0, 1) := by decide +kernel
theorem dX2_tell_30 : decode cX2_tell 30 = .ok (.lload_n 1, 1) := by decide +kernel
theorem dX2_tell_31 : decode cX2_tell 31 = .ok (.l2i, 1) := by decide +kernel
theorem dX2_tell_32 : decode cX2_tell 32 = .ok (.invokevirtual 46, 3) := by decide +kernel
theorem dX2_tell_35 : decode cX2_tell 35 = .ok (.goto 5, 3) := by decide +kernel
theorem dX2_tell_38 : decode cX2_tell 38 = .ok (.ldc 35, 2) := by decide +kernel
theorem dX2_tell_40 : decode cX2_tell 40 = .ok (.putfield 53, 3) := by decide +kernel
theorem dX2_tell_43 : decode cX2_tell 43 = .ok (.aload_n 0, 1) := by decide +kernel
theorem dX2_tell_44 : decode cX2_tell 44 = .ok (.iload 5, 2) := by decide +kernel
theorem dX2_tell_46 : decode cX2_tell 46 = .ok (.ifCond .eq 12, 3) := by decide +kernel
theorem dX2_tell_49 : decode cX2_tell 49 = .ok (.aload_n 0, 1) := by decide +kernel
theorem dX2_tell_50 : decode cX2_tell 50 = .ok (.lload_n 3, 1) := by decide +kernel
theorem dX2_tell_51 : decode cX2_tell 51 = .ok (.l2i, 1) := by decide +kernel
theorem dX2_tell_52 : decode cX2_tell 52 = .ok (.invokevirtual 50, 3) := by decide +kernel
theorem dX2_tell_55 : decode cX2_tell 55 = .ok (.goto 5, 3) := by decide +kernel
theorem dX2_tell_58 : decode cX2_tell 58 = .ok (.ldc 42, 2) := by decide +kernel
theorem dX2_tell_60 : decode cX2_tell 60 = .ok (.putfield 56, 3) := by decide +kernel
theorem dX2_tell_63 : decode cX2_tell 63 = .ok (.iconst 1, 1) := by decide +kernel
theorem dX2_tell_64 : decode cX2_tell 64 = .ok (.ireturn, 1) := by decide +kernel
set_option maxRecDepth 20000 in
theorem ggX2_tellAll_X2_tell : GoodIn wsX2_tellAll wsX2_tell := goodIn_r _ [7, 1, 2, 8, 9, 10, 11, 12, 13, 14, 6, 15, 16, 17, 18, 19, 20, 21, 22, 23, 24, 25, 26, 27, 28, 29, 30, 31, 32, 33] (by decide +kernel) (by decide +kernel)
set_option maxRecDepth 20000 in
theorem gX2_tellAll_X2_tell : GoodIn wsX2_tellAll (wsV RX2 59 RX2 yX2_tell wsX2_tell) := goodIn_app (goodIn_of _ (by decide +kernel)) ggX2_tellAll_X2_tell
theorem dX2_tellAll_0 : decode cX2_tellAll 0 = .ok (.aload_n 0, 1) := by decide +kernel
theorem dX2_tellAll_1 : decode cX2_tellAll 1 = .ok (.ldc2_w 23, 3) := by decide +kernel
theorem dX2_tellAll_4 : decode cX2_tellAll 4 = .ok (.ldc2_w 33, 3) := by decide +kernel
theorem dX2_tellAll_7 : decode cX2_tellAll 7 = .ok (.invokevirtual 59, 3) := by decide +kernel
theorem dX2_tellAll_10 : decode cX2_tellAll 10 = .ok (.ireturn, 1) := by decide +kernel
set_option maxRecDepth 20000 in
theorem ggX2_tellLeast_X2_tell : GoodIn wsX2_tellLeast wsX2_tell := goodIn_r _ [12, 13, 14, 15, 16, 17, 18, 19, 20, 21, 11, 22, 23, 24, 25, 26, 3, 27, 28, 29, 30, 31, 32, 33, 34, 35, 36, 37, 38, 39] (by decide +kernel) (by decide +kernel)
set_option maxRecDepth 20000 in
theorem gX2_tellLeast_X2_tell : GoodIn wsX2_tellLeast (wsV RX2 59 RX2 yX2_tell wsX2_tell) := goodIn_app (goodIn_of _ (by decide +kernel)) ggX2_tellLeast_X2_tell
theorem dX2_tellLeast_0 : decode cX2_tellLeast 0 = .ok (.aload_n 0, 1) := by decide +kernel
theorem dX2_tellLeast_1 : decode cX2_tellLeast 1 = .ok (.lload_n 1, 1) := by decide +kernel
theorem dX2_tellLeast_2 : decode cX2_tellLeast 2 = .ok (.lload_n 3, 1) := by decide +kernel
theorem dX2_tellLeast_3 : decode cX2_tellLeast 3 = .ok (.invokestatic 63, 3) := by decide +kernel
theorem dX2_tellLeast_6 : decode cX2_tellLeast 6 = .ok (.lload 5, 2) := by decide +kernel
theorem dX2_tellLeast_8 : decode cX2_tellLeast 8 = .ok (.lload 7, 2) := by decide +kernel
theorem dX2_tellLeast_10 : decode cX2_tellLeast 10 = .ok (.invokestatic 63, 3) := by decide +kernel
theorem dX2_tellLeast_13 : decode cX2_tellLeast 13 = .ok (.invokestatic 63, 3) := by decide +kernel
theorem dX2_tellLeast_16 : decode cX2_tellLeast 16 = .ok (.lload_n 1, 1) := by decide +kernel
theorem dX2_tellLeast_17 : decode cX2_tellLeast 17 = .ok (.lload_n 3, 1) := by decide +kernel
theorem dX2_tellLeast_18 : decode cX2_tellLeast 18 = .ok (.invokestatic 66, 3) := by decide +kernel
theorem dX2_tellLeast_21 : decode cX2_tellLeast 21 = .ok (.lload 5, 2) := by decide +kernel
theorem dX2_tellLeast_23 : decode cX2_tellLeast 23 = .ok (.lload 7, 2) := by decide +kernel
theorem dX2_tellLeast_25 : decode cX2_tellLeast 25 = .ok (.invokestatic 66, 3) := by decide +kernel
theorem dX2_tellLeast_28 : decode cX2_tellLeast 28 = .ok (.invokestatic 66, 3) := by decide +kernel
theorem dX2_tellLeast_31 : decode cX2_tellLeast 31 = .ok (.invokevirtual 59, 3) := by decide +kernel
theorem dX2_tellLeast_34 : decode cX2_tellLeast 34 = .ok (.ireturn, 1) := by decide +kernel
set_option maxRecDepth 20000 in
theorem ggX2_negate_X2_isRange : GoodIn wsX2_negate wsX2_isRange := goodIn_r _ [5, 6, 7, 8, 4, 9, 10, 11, 12, 13, 14, 15, 16, 17, 18, 19, 20, 21, 22, 23, 24, 33, 34, 35, 36, 37] (by decide +kernel) (by decide +kernel)
set_option maxRecDepth 20000 in
theorem gX2_negate_X2_isRange : GoodIn wsX2_negate (wsV RX2 68 RX2 yX2_isRange wsX2_isRange) := goodIn_app (goodIn_of _ (by decide +kernel)) ggX2_negate_X2_isRange
set_option maxRecDepth 20000 in
theorem ggX2_negate_X2_tell : GoodIn wsX2_negate wsX2_tell := goodIn_r _ [28, 29, 30, 10, 31, 21, 32, 6, 7, 8, 4, 9, 11, 12, 13, 14, 15, 16, 17, 18, 19, 20, 22, 23, 24, 33, 34, 35, 36, 37] (by decide +kernel) (by decide +kernel)
set_option maxRecDepth 20000 in
theorem gX2_negate_X2_tell : GoodIn wsX2_negate (wsV RX2 59 RX2 yX2_tell wsX2_tell) := goodIn_app (goodIn_of _ (by decide +kernel)) ggX2_negate_X2_tell
theorem dX2_negate_0 : decode cX2_negate 0 = .ok (.aload_n 0, 1) := by decide +kernel
theorem dX2_negate_1 : decode cX2_negate 1 = .ok (.iload_n 1, 1) := by decide +kernel
theorem dX2_negate_2 : decode cX2_negate 2 = .ok (.iload_n 2, 1) := by decide +kernel
theorem dX2_negate_3 : decode cX2_negate 3 = .ok (.invokevirtual 68, 3) := by decide +kernel
theorem dX2_negate_6 : decode cX2_negate 6 = .ok (.ifCond .ne 5, 3) := by decide +kernel
theorem dX2_negate_9 : decode cX2_negate 9 = .ok (.iconst 0, 1) := by decide +kernel
theorem dX2_negate_10 : decode cX2_negate 10 = .ok (.ireturn, 1) := by decide +kernel
theorem dX2_negate_11 : decode cX2_negate 11 = .ok (.aload_n 0, 1) := by decide +kernel
theorem dX2_negate_12 : decode cX2_negate 12 = .ok (.iload_n 2, 1) := by decide +kernel
theorem dX2_negate_13 : decode cX2_negate 13 = .ok (.i2l, 1) := by decide +kernel
theorem dX2_negate_14 : decode cX2_negate 14 = .ok (.lneg, 1) := by decide +kernel
theorem dX2_negate_15 : decode cX2_negate 15 = .ok (.iload_n 1, 1) := by decide +kernel
theorem dX2_negate_16 : decode cX2_negate 16 = .ok (.i2l, 1) := by decide +kernel
theorem dX2_negate_17 : decode cX2_negate 17 = .ok (.lneg, 1) := by decide +kernel
theorem dX2_negate_18 : decode cX2_negate 18 = .ok (.invokevirtual 59, 3) := by decide +kernel
theorem dX2_negate_21 : decode cX2_negate 21 = .ok (.istore_n 3, 1) := by decide +kernel
theorem dX2_negate_22 : decode cX2_negate 22 = .ok (.iload_n 3, 1) := by decide +kernel
theorem dX2_negate_23 : decode cX2_negate 23 = .ok (.iconst 1, 1) := by decide +kernel
theorem dX2_negate_24 : decode cX2_negate 24 = .ok (.if_icmp .ne 7, 3) := by decide +kernel
theorem dX2_negate_27 : decode cX2_negate 27 = .ok (.iconst 1, 1) := by decide +kernel
theorem dX2_negate_28 : decode cX2_negate 28 = .ok (.goto 4, 3) := by decide +kernel
theorem dX2_negate_31 : decode cX2_negate 31 = .ok (.iconst 0, 1) := by decide +kernel
theorem dX2_negate_32 : decode cX2_negate 32 = .ok (.ireturn, 1) := by decide +kernel
set_option maxRecDepth 20000 in
theorem ggX2_work_X2_isRange : GoodIn wsX2_work wsX2_isRange := goodIn_r _ [12, 13, 14, 15, 11, 16, 17, 18, 19, 5, 6, 3, 7, 20, 21, 22, 23, 24, 1, 2, 4, 64, 65, 66, 67, 68] (by decide +kernel) (by decide +kernel)
set_option maxRecDepth 20000 in
theorem gX2_work_X2_isRange : GoodIn wsX2_work (wsV RX2 68 RX2 yX2_isRange wsX2_isRange) := goodIn_app (goodIn_of _ (by decide +kernel)) ggX2_work_X2_isRange
set_option maxRecDepth 20000 in
theorem ggX2_work_X2_tell : GoodIn wsX2_work wsX2_tell := goodIn_r _ [28, 29, 30, 17, 31, 24, 32, 13, 14, 15, 11, 16, 18, 19, 5, 6, 3, 7, 20, 21, 22, 23, 1, 2, 4, 64, 65, 66, 67, 68] (by decide +kernel) (by decide +kernel)
set_option maxRecDepth 20000 in
theorem gX2_work_X2_tell : GoodIn wsX2_work (wsV RX2 59 RX2 yX2_tell wsX2_tell) := goodIn_app (goodIn_of _ (by decide +kernel)) ggX2_work_X2_tell
set_option maxRecDepth 20000 in
theorem ggX2_work_X2_tellLeast : GoodIn wsX2_work wsX2_tellLeast := goodIn_r _ [36, 37, 38, 3, 39, 40, 41, 42, 25, 26, 27, 11, 28, 29, 30, 17, 31, 24, 32, 13, 14, 15, 16, 18, 19, 5, 6, 7, 20, 21, 22, 23, 1, 2, 4, 64, 65, 66, 67, 68] (by decide +kernel) (by decide +kernel)
set_option maxRecDepth 20000 in
theorem gX2_work_X2_tellLeast : GoodIn wsX2_work (wsV RX2 72 RX2 yX2_tellLeast wsX2_tellLeast) := goodIn_app (goodIn_of _ (by decide +kernel)) ggX2_work_X2_tellLeast
set_option maxRecDepth 20000 in
theorem ggX2_work_X2_quotient : GoodIn wsX2_work wsX2_quotient := goodIn_r _ [46, 47, 48, 37, 38, 3, 39, 40, 41, 42, 25, 26, 27, 11, 28, 29, 30, 17, 31, 24, 32, 13, 14, 15, 16, 18, 19, 5, 6, 7, 20, 21, 22, 23, 1, 2, 4, 64, 65, 66, 67, 68] (by decide +kernel) (by decide +kernel)
set_option maxRecDepth 20000 in
theorem gX2_work_X2_quotient : GoodIn wsX2_work (wsV RX2 76 RX2 yX2_quotient wsX2_quotient) := goodIn_app (goodIn_of _ (by decide +kernel)) ggX2_work_X2_quotient
set_option maxRecDepth 20000 in
theorem ggX2_work_X2_rest : GoodIn wsX2_work wsX2_rest := goodIn_r _ [52, 53, 54, 3, 55, 40, 41, 42, 37, 38, 39, 25, 26, 27, 11, 28, 29, 30, 17, 31, 24, 32, 13, 14, 15, 16, 18, 19, 5, 6, 7, 20, 21, 22, 23, 1, 2, 4, 64, 65, 66, 67, 68] (by decide +kernel) (by decide +kernel)
set_option maxRecDepth 20000 in
theorem gX2_work_X2_rest : GoodIn wsX2_work (wsV RX2 80 RX2 yX2_rest wsX2_rest) := goodIn_app (goodIn_of _ (by decide +kernel)) ggX2_work_X2_rest
set_option maxRecDepth 20000 in
theorem ggX2_work_X2_tellAll : GoodIn wsX2_work wsX2_tellAll := goodIn_r _ [59, 29, 30, 25, 26, 27, 11, 28, 17, 31, 24, 32, 13, 14, 15, 16, 18, 19, 5, 6, 3, 7, 20, 21, 22, 23, 1, 2, 4, 64, 65, 66, 67, 68] (by decide +kernel) (by decide +kernel)
set_option maxRecDepth 20000 in
theorem gX2_work_X2_tellAll : GoodIn wsX2_work (wsV RX2 84 RX2 yX2_tellAll wsX2_tellAll) := goodIn_app (goodIn_of _ (by decide +kernel)) ggX2_work_X2_tellAll
set_option maxRecDepth 20000 in
theorem ggX2_work_X2_ones : GoodIn wsX2_work wsX2_ones := goodIn_r _ [62, 63] (by decide +kernel) (by decide +kernel)
set_option maxRecDepth 20000 in
theorem gX2_work_X2_ones : GoodIn wsX2_work (va_wsS RX2 88 yX2_ones wsX2_ones) := goodIn_app (goodIn_of _ (by decide +kernel)) ggX2_work_X2_ones
theorem dX2_work_0 : decode cX2_work 0 = .ok (.iload_n 1, 1) := by decide +kernel
theorem dX2_work_1 : decode cX2_work 1 = .ok (.ifCond .lt 29, 3) := by decide +kernel
theorem dX2_work_4 : decode cX2_work 4 = .ok (.iload_n 1, 1) := by decide +kernel
theorem dX2_work_5 : decode cX2_work 5 = .ok (.bipush 9, 2) := by decide +kernel
theorem dX2_work_7 : decode cX2_work 7 = .ok (.if_icmp .gt 23, 3) := by decide +kernel
theorem dX2_work_10 : decode cX2_work 10 = .ok (.aload_n 0, 1) := by decide +kernel
theorem dX2_work_11 : decode cX2_work 11 = .ok (.iload_n 2, 1) := by decide +kernel
theorem dX2_work_12 : decode cX2_work 12 = .ok (.iload_n 3, 1) := by decide +kernel
theorem dX2_work_13 : decode cX2_work 13 = .ok (.invokevirtual 68, 3) := by decide +kernel
theorem dX2_work_16 : decode cX2_work 16 = .ok (.ifCond .eq 14, 3) := by decide +kernel
theorem dX2_work_19 : decode cX2_work 19 = .ok (.aload_n 0, 1) := by decide +kernel
theorem dX2_work_20 : decode cX2_work 20 = .ok (.iload 4, 2) := by decide +kernel
theorem dX2_work_22 : decode cX2_work 22 = .ok (.iload 5, 2) := by decide +kernel
theorem dX2_work_24 : decode cX2_work 24 = .ok (.invokevirtual 68, 3) := by decide +kernel
theorem dX2_work_27 : decode cX2_work 27 = .ok (.ifCond .ne 5, 3) := by decide +kernel
theorem dX2_work_30 : decode cX2_work 30 = .ok (.iconst (-1), 1) := by decide +kernel
theorem dX2_work_31 : decode cX2_work 31 = .ok (.ireturn, 1) := by decide +kernel
theorem dX2_work_32 : decode cX2_work 32 = .ok (.iload_n 1, 1) := by decide +kernel
theorem dX2_work_33 : decode cX2_work 33 = .ok (.tableswitch 250 0 8 #[51, 68, 85, 114, 125, 138, 185, 185, 214], 51) := by decide +kernel
theorem dX2_work_84 : decode cX2_work 84 = .ok (.aload_n 0, 1) := by decide +kernel
theorem dX2_work_85 : decode cX2_work 85 = .ok (.iload_n 2, 1) := by decide +kernel
theorem dX2_work_86 : decode cX2_work 86 = .ok (.i2l, 1) := by decide +kernel
theorem dX2_work_87 : decode cX2_work 87 = .ok (.iload 4, 2) := by decide +kernel
theorem dX2_work_89 : decode cX2_work 89 = .ok (.i2l, 1) := by decide +kernel
theorem dX2_work_90 : decode cX2_work 90 = .ok (.ladd, 1) := by decide +kernel
theorem dX2_work_91 : decode cX2_work 91 = .ok (.iload_n 3, 1) := by decide +kernel
theorem dX2_work_92 : decode cX2_work 92 = .ok (.i2l, 1) := by decide +kernel
theorem dX2_work_93 : decode cX2_work 93 = .ok (.iload 5, 2) := by decide +kernel
theorem dX2_work_95 : decode cX2_work 95 = .ok (.i2l, 1) := by decide +kernel
theorem dX2_work_96 : decode cX2_work 96 = .ok (.ladd, 1) := by decide +kernel
theorem dX2_work_97 : decode cX2_work 97 = .ok (.invokevirtual 59, 3) := by decide +kernel
theorem dX2_work_100 : decode cX2_work 100 = .ok (.ireturn, 1) := by decide +kernel
theorem dX2_work_101 : decode cX2_work 101 = .ok (.aload_n 0, 1) := by decide +kernel
theorem dX2_work_102 : decode cX2_work 102 = .ok (.iload_n 2, 1) := by decide +kernel
theorem dX2_work_103 : decode cX2_work 103 = .ok (.i2l, 1) := by decide +kernel
theorem dX2_work_104 : decode cX2_work 104 = .ok (.iload 5, 2) := by decide +kernel
theorem dX2_work_106 : decode cX2_work 106 = .ok (.i2l, 1) := by decide +kernel
theorem dX2_work_107 : decode cX2_work 107 = .ok (.lsub, 1) := by decide +kernel
theorem dX2_work_108 : decode cX2_work 108 = .ok (.iload_n 3, 1) := by decide +kernel
theorem dX2_work_109 : decode cX2_work 109 = .ok (.i2l, 1) := by decide +kernel
theorem dX2_work_110 : decode cX2_work 110 = .ok (.iload 4, 2) := by decide +kernel
theorem dX2_work_112 : decode cX2_work 112 = .ok (.i2l, 1) := by decide +kernel
theorem dX2_work_113 : decode cX2_work 113 = .ok (.lsub, 1) := by decide +kernel
theorem dX2_work_114 : decode cX2_work 114 = .ok (.invokevirtual 59, 3) := by decide +kernel
theorem dX2_work_117 : decode cX2_work 117 = .ok (.ireturn, 1) := by decide +kernel
theorem dX2_work_118 : decode cX2_work 118 = .ok (.aload_n 0, 1) := by decide +kernel
theorem dX2_work_119 : decode cX2_work 119 = .ok (.iload_n 2, 1) := by decide +kernel
theorem dX2_work_120 : decode cX2_work 120 = .ok (.i2l, 1) := by decide +kernel
theorem dX2_work_121 : decode cX2_work 121 = .ok (.iload 4, 2) := by decide +kernel
theorem dX2_work_123 : decode cX2_work 123 = .ok (.i2l, 1) := by decide +kernel
theorem dX2_work_124 : decode cX2_work 124 = .ok (.lmul, 1) := by decide +kernel
theorem dX2_work_125 : decode cX2_work 125 = .ok (.iload_n 2, 1) := by decide +kernel
theorem dX2_work_126 : decode cX2_work 126 = .ok (.i2l, 1) := by decide +kernel
theorem dX2_work_127 : decode cX2_work 127 = .ok (.iload 5, 2) := by decide +kernel
theorem dX2_work_129 : decode cX2_work 129 = .ok (.i2l, 1) := by decide +kernel
theorem dX2_work_130 : decode cX2_work 130 = .ok (.lmul, 1) := by decide +kernel
theorem dX2_work_131 : decode cX2_work 131 = .ok (.iload_n 3, 1) := by decide +kernel
theorem dX2_work_132 : decode cX2_work 132 = .ok (.i2l, 1) := by decide +kernel
theorem dX2_work_133 : decode cX2_work 133 = .ok (.iload 4, 2) := by decide +kernel
theorem dX2_work_135 : decode cX2_work 135 = .ok (.i2l, 1) := by decide +kernel
theorem dX2_work_136 : decode cX2_work 136 = .ok (.lmul, 1) := by decide +kernel
theorem dX2_work_137 : decode cX2_work 137 = .ok (.iload_n 3, 1) := by decide +kernel
theorem dX2_work_138 : decode cX2_work 138 = .ok (.i2l, 1) := by decide +kernel
theorem dX2_work_139 : decode cX2_work 139 = .ok (.iload 5, 2) := by decide +kernel
theorem dX2_work_141 : decode cX2_work 141 = .ok (.i2l, 1) := by decide +kernel
theorem dX2_work_142 : decode cX2_work 142 = .ok (.lmul, 1) := by decide +kernel
theorem dX2_work_143 : decode cX2_work 143 = .ok (.invokevirtual 72, 3) := by decide +kernel
theorem dX2_work_146 : decode cX2_work 146 = .ok (.ireturn, 1) := by decide +kernel
theorem dX2_work_147 : decode cX2_work 147 = .ok (.aload_n 0, 1) := by decide +kernel
theorem dX2_work_148 : decode cX2_work 148 = .ok (.iload_n 2, 1) := by decide +kernel
theorem dX2_work_149 : decode cX2_work 149 = .ok (.iload_n 3, 1) := by decide +kernel
theorem dX2_work_150 : decode cX2_work 150 = .ok (.iload 4, 2) := by decide +kernel
theorem dX2_work_152 : decode cX2_work 152 = .ok (.iload 5, 2) := by decide +kernel
theorem dX2_work_154 : decode cX2_work 154 = .ok (.invokevirtual 76, 3) := by decide +kernel
theorem dX2_work_157 : decode cX2_work 157 = .ok (.ireturn, 1) := by decide +kernel
theorem dX2_work_158 : decode cX2_work 158 = .ok (.aload_n 0, 1) := by decide +kernel
theorem dX2_work_159 : decode cX2_work 159 = .ok (.iload_n 2, 1) := by decide +kernel
theorem dX2_work_160 : decode cX2_work 160 = .ok (.iload_n 3, 1) := by decide +kernel
theorem dX2_work_161 : decode cX2_work 161 = .ok (.iload 4, 2) := by decide +kernel
theorem dX2_work_163 : decode cX2_work 163 = .ok (.i2l, 1) := by decide +kernel
theorem dX2_work_164 : decode cX2_work 164 = .ok (.iload 5, 2) := by decide +kernel
theorem dX2_work_166 : decode cX2_work 166 = .ok (.i2l, 1) := by decide +kernel
theorem dX2_work_167 : decode cX2_work 167 = .ok (.invokevirtual 80, 3) := by decide +kernel
theorem dX2_work_170 : decode cX2_work 170 = .ok (.ireturn, 1) := by decide +kernel
theorem dX2_work_171 : decode cX2_work 171 = .ok (.iload_n 2, 1) := by decide +kernel
theorem dX2_work_172 : decode cX2_work 172 = .ok (.ifCond .ge 13, 3) := by decide +kernel
theorem dX2_work_175 : decode cX2_work 175 = .ok (.iload 4, 2) := by decide +kernel
theorem dX2_work_177 : decode cX2_work 177 = .ok (.ifCond .ge 8, 3) := by decide +kernel
theorem dX2_work_180 : decode cX2_work 180 = .ok (.aload_n 0, 1) := by decide +kernel
theorem dX2_work_181 : decode cX2_work 181 = .ok (.invokevirtual 84, 3) := by decide +kernel
theorem dX2_work_184 : decode cX2_work 184 = .ok (.ireturn, 1) := by decide +kernel
theorem dX2_work_185 : decode cX2_work 185 = .ok (.aload_n 0, 1) := by decide +kernel
theorem dX2_work_186 : decode cX2_work 186 = .ok (.lconst 0, 1) := by decide +kernel
theorem dX2_work_187 : decode cX2_work 187 = .ok (.iload_n 2, 1) := by decide +kernel
theorem dX2_work_188 : decode cX2_work 188 = .ok (.ifCond .ge 9, 3) := by decide +kernel
theorem dX2_work_191 : decode cX2_work 191 = .ok (.iload 5, 2) := by decide +kernel
theorem dX2_work_193 : decode cX2_work 193 = .ok (.i2l, 1) := by decide +kernel
theorem dX2_work_194 : decode cX2_work 194 = .ok (.goto 20, 3) := by decide +kernel
theorem dX2_work_197 : decode cX2_work 197 = .ok (.iload 4, 2) := by decide +kernel
theorem dX2_work_199 : decode cX2_work 199 = .ok (.ifCond .ge 8, 3) := by decide +kernel
theorem dX2_work_202 : decode cX2_work 202 = .ok (.iload_n 3, 1) := by decide +kernel
theorem dX2_work_203 : decode cX2_work 203 = .ok (.i2l, 1) := by decide +kernel
theorem dX2_work_204 : decode cX2_work 204 = .ok (.goto 10, 3) := by decide +kernel
theorem dX2_work_207 : decode cX2_work 207 = .ok (.iload_n 3, 1) := by decide +kernel
theorem dX2_work_208 : decode cX2_work 208 = .ok (.iload 5, 2) := by decide +kernel
theorem dX2_work_210 : decode cX2_work 210 = .ok (.invokestatic 43, 3) := by decide +kernel
theorem dX2_work_213 : decode cX2_work 213 = .ok (.i2l, 1) := by decide +kernel
theorem dX2_work_214 : decode cX2_work 214 = .ok (.invokevirtual 59, 3) := by decide +kernel
theorem dX2_work_217 : decode cX2_work 217 = .ok (.ireturn, 1) := by decide +kernel
theorem dX2_work_218 : decode cX2_work 218 = .ok (.iload_n 2, 1) := by decide +kernel
theorem dX2_work_219 : decode cX2_work 219 = .ok (.ifCond .lt 8, 3) := by decide +kernel
theorem dX2_work_222 : decode cX2_work 222 = .ok (.iload 4, 2) := by decide +kernel
theorem dX2_work_224 : decode cX2_work 224 = .ok (.ifCond .ge 8, 3) := by decide +kernel
theorem dX2_work_227 : decode cX2_work 227 = .ok (.aload_n 0, 1) := by decide +kernel
theorem dX2_work_228 : decode cX2_work 228 = .ok (.invokevirtual 84, 3) := by decide +kernel
theorem dX2_work_231 : decode cX2_work 231 = .ok (.ireturn, 1) := by decide +kernel
theorem dX2_work_232 : decode cX2_work 232 = .ok (.aload_n 0, 1) := by decide +kernel
theorem dX2_work_233 : decode cX2_work 233 = .ok (.lconst 0, 1) := by decide +kernel
theorem dX2_work_234 : decode cX2_work 234 = .ok (.iload_n 3, 1) := by decide +kernel
theorem dX2_work_235 : decode cX2_work 235 = .ok (.iload 5, 2) := by decide +kernel
theorem dX2_work_237 : decode cX2_work 237 = .ok (.invokestatic 36, 3) := by decide +kernel
theorem dX2_work_240 : decode cX2_work 240 = .ok (.invokestatic 88, 3) := by decide +kernel
theorem dX2_work_243 : decode cX2_work 243 = .ok (.invokevirtual 59, 3) := by decide +kernel
theorem dX2_work_246 : decode cX2_work 246 = .ok (.ireturn, 1) := by decide +kernel
theorem dX2_work_247 : decode cX2_work 247 = .ok (.iload 4, 2) := by decide +kernel
theorem dX2_work_249 : decode cX2_work 249 = .ok (.iload 5, 2) := by decide +kernel
theorem dX2_work_251 : decode cX2_work 251 = .ok (.if_icmp .eq 8, 3) := by decide +kernel
theorem dX2_work_254 : decode cX2_work 254 = .ok (.aload_n 0, 1) := by decide +kernel
theorem dX2_work_255 : decode cX2_work 255 = .ok (.invokevirtual 84, 3) := by decide +kernel
theorem dX2_work_258 : decode cX2_work 258 = .ok (.ireturn, 1) := by decide +kernel
theorem dX2_work_259 : decode cX2_work 259 = .ok (.lconst 1, 1) := by decide +kernel
theorem dX2_work_260 : decode cX2_work 260 = .ok (.iload 4, 2) := by decide +kernel
theorem dX2_work_262 : decode cX2_work 262 = .ok (.bipush 31, 2) := by decide +kernel
theorem dX2_work_264 : decode cX2_work 264 = .ok (.iand, 1) := by decide +kernel
theorem dX2_work_265 : decode cX2_work 265 = .ok (.lshl, 1) := by decide +kernel
theorem dX2_work_266 : decode cX2_work 266 = .ok (.lstore 6, 2) := by decide +kernel
theorem dX2_work_268 : decode cX2_work 268 = .ok (.aload_n 0, 1) := by decide +kernel
theorem dX2_work_269 : decode cX2_work 269 = .ok (.iload_n 2, 1) := by decide +kernel
theorem dX2_work_270 : decode cX2_work 270 = .ok (.i2l, 1) := by decide +kernel
theorem dX2_work_271 : decode cX2_work 271 = .ok (.lload 6, 2) := by decide +kernel
theorem dX2_work_273 : decode cX2_work 273 = .ok (.lmul, 1) := by decide +kernel
theorem dX2_work_274 : decode cX2_work 274 = .ok (.iload_n 3, 1) := by decide +kernel
theorem dX2_work_275 : decode cX2_work 275 = .ok (.i2l, 1) := by decide +kernel
theorem dX2_work_276 : decode cX2_work 276 = .ok (.lload 6, 2) := by decide +kernel
theorem dX2_work_278 : decode cX2_work 278 = .ok (.lmul, 1) := by decide +kernel
theorem dX2_work_279 : decode cX2_work 279 = .ok (.invokevirtual 59, 3) := by decide +kernel
theorem dX2_work_282 : decode cX2_work 282 = .ok (.ireturn, 1) := by decide +kernel
theorem dX2_work_283 : decode cX2_work 283 = .ok (.iload 4, 2) := by decide +kernel
theorem dX2_work_285 : decode cX2_work 285 = .ok (.iload 5, 2) := by decide +kernel
theorem dX2_work_287 : decode cX2_work 287 = .ok (.if_icmp .ne 24, 3) := by decide +kernel
theorem dX2_work_290 : decode cX2_work 290 = .ok (.aload_n 0, 1) := by decide +kernel
theorem dX2_work_291 : decode cX2_work 291 = .ok (.iload_n 2, 1) := by decide +kernel
theorem dX2_work_292 : decode cX2_work 292 = .ok (.iload 4, 2) := by decide +kernel
theorem dX2_work_294 : decode cX2_work 294 = .ok (.bipush 31, 2) := by decide +kernel
theorem dX2_work_296 : decode cX2_work 296 = .ok (.iand, 1) := by decide +kernel
theorem dX2_work_297 : decode cX2_work 297 = .ok (.ishr, 1) := by decide +kernel
theorem dX2_work_298 : decode cX2_work 298 = .ok (.i2l, 1) := by decide +kernel
theorem dX2_work_299 : decode cX2_work 299 = .ok (.iload_n 3, 1) := by decide +kernel
theorem dX2_work_300 : decode cX2_work 300 = .ok (.iload 4, 2) := by decide +kernel
theorem dX2_work_302 : decode cX2_work 302 = .ok (.bipush 31, 2) := by decide +kernel
theorem dX2_work_304 : decode cX2_work 304 = .ok (.iand, 1) := by decide +kernel
theorem dX2_work_305 : decode cX2_work 305 = .ok (.ishr, 1) := by decide +kernel
theorem dX2_work_306 : decode cX2_work 306 = .ok (.i2l, 1) := by decide +kernel
theorem dX2_work_307 : decode cX2_work 307 = .ok (.invokevirtual 59, 3) := by decide +kernel
theorem dX2_work_310 : decode cX2_work 310 = .ok (.ireturn, 1) := by decide +kernel
theorem dX2_work_311 : decode cX2_work 311 = .ok (.aload_n 0, 1) := by decide +kernel
theorem dX2_work_312 : decode cX2_work 312 = .ok (.iload_n 2, 1) := by decide +kernel
theorem dX2_work_313 : decode cX2_work 313 = .ok (.iconst 0, 1) := by decide +kernel
theorem dX2_work_314 : decode cX2_work 314 = .ok (.invokestatic 43, 3) := by decide +kernel
theorem dX2_work_317 : decode cX2_work 317 = .ok (.i2l, 1) := by decide +kernel
theorem dX2_work_318 : decode cX2_work 318 = .ok (.iload_n 3, 1) := by decide +kernel
theorem dX2_work_319 : decode cX2_work 319 = .ok (.iconst (-1), 1) := by decide +kernel
theorem dX2_work_320 : decode cX2_work 320 = .ok (.invokestatic 36, 3) := by decide +kernel
theorem dX2_work_323 : decode cX2_work 323 = .ok (.i2l, 1) := by decide +kernel
theorem dX2_work_324 : decode cX2_work 324 = .ok (.invokevirtual 59, 3) := by decide +kernel
theorem dX2_work_327 : decode cX2_work 327 = .ok (.ireturn, 1) := by decide +kernel
theorem dX2_ones_0 : decode cX2_ones 0 = .ok (.lconst 0, 1) := by decide +kernel
theorem dX2_ones_1 : decode cX2_ones 1 = .ok (.lstore_n 1, 1) := by decide +kernel
theorem dX2_ones_2 : decode cX2_ones 2 = .ok (.lload_n 1, 1) := by decide +kernel
theorem dX2_ones_3 : decode cX2_ones 3 = .ok (.iload_n 0, 1) := by decide +kernel
theorem dX2_ones_4 : decode cX2_ones 4 = .ok (.i2l, 1) := by decide +kernel
theorem dX2_ones_5 : decode cX2_ones 5 = .ok (.lcmp, 1) := by decide +kernel
theorem dX2_ones_6 : decode cX2_ones 6 = .ok (.ifCond .ge 14, 3) := by decide +kernel
theorem dX2_ones_9 : decode cX2_ones 9 = .ok (.ldc2_w 92, 3) := by decide +kernel
theorem dX2_ones_12 : decode cX2_ones 12 = .ok (.lload_n 1, 1) := by decide +kernel
theorem dX2_ones_13 : decode cX2_ones 13 = .ok (.lmul, 1) := by decide +kernel
theorem dX2_ones_14 : decode cX2_ones 14 = .ok (.lconst 1, 1) := by decide +kernel
theorem dX2_ones_15 : decode cX2_ones 15 = .ok (.ladd, 1) := by decide +kernel
theorem dX2_ones_16 : decode cX2_ones 16 = .ok (.lstore_n 1, 1) := by decide +kernel
theorem dX2_ones_17 : decode cX2_ones 17 = .ok (.goto (-15), 3) := by decide +kernel
theorem dX2_ones_20 : decode cX2_ones 20 = .ok (.lload_n 1, 1) := by decide +kernel
theorem dX2_ones_21 : decode cX2_ones 21 = .ok (.lreturn, 1) := by decide +kernel
set_option maxRecDepth 20000 in
theorem ggX2_quotient_X2_tell : GoodIn wsX2_quotient wsX2_tell := goodIn_r _ [14, 15, 16, 17, 18, 19, 20, 21, 22, 23, 13, 24, 25, 26, 27, 28, 5, 29, 30, 31, 32, 33, 34, 35, 36, 37, 38, 39, 40, 41] (by decide +kernel) (by decide +kernel)
set_option maxRecDepth 20000 in
theorem gX2_quotient_X2_tell : GoodIn wsX2_quotient (wsV RX2 59 RX2 yX2_tell wsX2_tell) := goodIn_app (goodIn_of _ (by decide +kernel)) ggX2_quotient_X2_tell
theorem dX2_quotient_0 : decode cX2_quotient 0 = .ok (.ldc2_w 96, 3) := by decide +kernel
theorem dX2_quotient_3 : decode cX2_quotient 3 = .ok (.lstore 5, 2) := by decide +kernel
theorem dX2_quotient_5 : decode cX2_quotient 5 = .ok (.ldc2_w 98, 3) := by decide +kernel
theorem dX2_quotient_8 : decode cX2_quotient 8 = .ok (.lstore 7, 2) := by decide +kernel
theorem dX2_quotient_10 : decode cX2_quotient 10 = .ok (.iconst 0, 1) := by decide +kernel
theorem dX2_quotient_11 : decode cX2_quotient 11 = .ok (.istore 9, 2) := by decide +kernel
theorem dX2_quotient_13 : decode cX2_quotient 13 = .ok (.iload 9, 2) := by decide +kernel
theorem dX2_quotient_15 : decode cX2_quotient 15 = .ok (.iconst 4, 1) := by decide +kernel
theorem dX2_quotient_16 : decode cX2_quotient 16 = .ok (.if_icmp .ge 108, 3) := by decide +kernel
theorem dX2_quotient_19 : decode cX2_quotient 19 = .ok (.iload 9, 2) := by decide +kernel
theorem dX2_quotient_21 : decode cX2_quotient 21 = .ok (.iconst 2, 1) := by decide +kernel
theorem dX2_quotient_22 : decode cX2_quotient 22 = .ok (.if_icmp .ge 13, 3) := by decide +kernel
theorem dX2_quotient_25 : decode cX2_quotient 25 = .ok (.iconst 2, 1) := by decide +kernel
theorem dX2_quotient_26 : decode cX2_quotient 26 = .ok (.iload 9, 2) := by decide +kernel
theorem dX2_quotient_28 : decode cX2_quotient 28 = .ok (.imul, 1) := by decide +kernel
theorem dX2_quotient_29 : decode cX2_quotient 29 = .ok (.iconst 1, 1) := by decide +kernel
theorem dX2_quotient_30 : decode cX2_quotient 30 = .ok (.isub, 1) := by decide +kernel
theorem dX2_quotient_31 : decode cX2_quotient 31 = .ok (.i2l, 1) := by decide +kernel
theorem dX2_quotient_32 : decode cX2_quotient 32 = .ok (.goto 17, 3) := by decide +kernel
theorem dX2_quotient_35 : decode cX2_quotient 35 = .ok (.iload 9, 2) := by decide +kernel
theorem dX2_quotient_37 : decode cX2_quotient 37 = .ok (.iconst 2, 1) := by decide +kernel
theorem dX2_quotient_38 : decode cX2_quotient 38 = .ok (.if_icmp .ne 8, 3) := by decide +kernel
theorem dX2_quotient_41 : decode cX2_quotient 41 = .ok (.iload_n 3, 1) := by decide +kernel
theorem dX2_quotient_42 : decode cX2_quotient 42 = .ok (.i2l, 1) := by decide +kernel
theorem dX2_quotient_43 : decode cX2_quotient 43 = .ok (.goto 6, 3) := by decide +kernel
theorem dX2_quotient_46 : decode cX2_quotient 46 = .ok (.iload 4, 2) := by decide +kernel
theorem dX2_quotient_48 : decode cX2_quotient 48 = .ok (.i2l, 1) := by decide +kernel
theorem dX2_quotient_49 : decode cX2_quotient 49 = .ok (.lstore 10, 2) := by decide +kernel
theorem dX2_quotient_51 : decode cX2_quotient 51 = .ok (.lload 10, 2) := by decide +kernel
theorem dX2_quotient_53 : decode cX2_quotient 53 = .ok (.lconst 0, 1) := by decide +kernel
theorem dX2_quotient_54 : decode cX2_quotient 54 = .ok (.lcmp, 1) := by decide +kernel
theorem dX2_quotient_55 : decode cX2_quotient 55 = .ok (.ifCond .eq 63, 3) := by decide +kernel
theorem dX2_quotient_58 : decode cX2_quotient 58 = .ok (.lload 10, 2) := by decide +kernel
theorem dX2_quotient_60 : decode cX2_quotient 60 = .ok (.iload_n 3, 1) := by decide +kernel
theorem dX2_quotient_61 : decode cX2_quotient 61 = .ok (.i2l, 1) := by decide +kernel
theorem dX2_quotient_62 : decode cX2_quotient 62 = .ok (.lcmp, 1) := by decide +kernel
theorem dX2_quotient_63 : decode cX2_quotient 63 = .ok (.ifCond .lt 55, 3) := by decide +kernel
theorem dX2_quotient_66 : decode cX2_quotient 66 = .ok (.lload 10, 2) := by decide +kernel
theorem dX2_quotient_68 : decode cX2_quotient 68 = .ok (.iload 4, 2) := by decide +kernel
theorem dX2_quotient_70 : decode cX2_quotient 70 = .ok (.i2l, 1) := by decide +kernel
theorem dX2_quotient_71 : decode cX2_quotient 71 = .ok (.lcmp, 1) := by decide +kernel
theorem dX2_quotient_72 : decode cX2_quotient 72 = .ok (.ifCond .le 6, 3) := by decide +kernel
theorem dX2_quotient_75 : decode cX2_quotient 75 = .ok (.goto 43, 3) := by decide +kernel
theorem dX2_quotient_78 : decode cX2_quotient 78 = .ok (.lload 5, 2) := by decide +kernel
theorem dX2_quotient_80 : decode cX2_quotient 80 = .ok (.iload_n 1, 1) := by decide +kernel
theorem dX2_quotient_81 : decode cX2_quotient 81 = .ok (.i2l, 1) := by decide +kernel
theorem dX2_quotient_82 : decode cX2_quotient 82 = .ok (.lload 10, 2) := by decide +kernel
theorem dX2_quotient_84 : decode cX2_quotient 84 = .ok (.ldiv, 1) := by decide +kernel
theorem dX2_quotient_85 : decode cX2_quotient 85 = .ok (.iload_n 2, 1) := by decide +kernel
theorem dX2_quotient_86 : decode cX2_quotient 86 = .ok (.i2l, 1) := by decide +kernel
theorem dX2_quotient_87 : decode cX2_quotient 87 = .ok (.lload 10, 2) := by decide +kernel
theorem dX2_quotient_89 : decode cX2_quotient 89 = .ok (.ldiv, 1) := by decide +kernel
theorem dX2_quotient_90 : decode cX2_quotient 90 = .ok (.invokestatic 63, 3) := by decide +kernel
theorem dX2_quotient_93 : decode cX2_quotient 93 = .ok (.invokestatic 63, 3) := by decide +kernel
theorem dX2_quotient_96 : decode cX2_quotient 96 = .ok (.lstore 5, 2) := by decide +kernel
theorem dX2_quotient_98 : decode cX2_quotient 98 = .ok (.lload 7, 2) := by decide +kernel
theorem dX2_quotient_100 : decode cX2_quotient 100 = .ok (.iload_n 1, 1) := by decide +kernel
theorem dX2_quotient_101 : decode cX2_quotient 101 = .ok (.i2l, 1) := by decide +kernel
theorem dX2_quotient_102 : decode cX2_quotient 102 = .ok (.lload 10, 2) := by decide +kernel
theorem dX2_quotient_104 : decode cX2_quotient 104 = .ok (.ldiv, 1) := by decide +kernel
theorem dX2_quotient_105 : decode cX2_quotient 105 = .ok (.iload_n 2, 1) := by decide +kernel
theorem dX2_quotient_106 : decode cX2_quotient 106 = .ok (.i2l, 1) := by decide +kernel
theorem dX2_quotient_107 : decode cX2_quotient 107 = .ok (.lload 10, 2) := by decide +kernel
theorem dX2_quotient_109 : decode cX2_quotient 109 = .ok (.ldiv, 1) := by decide +kernel
theorem dX2_quotient_110 : decode cX2_quotient 110 = .ok (.invokestatic 66, 3) := by decide +kernel
theorem dX2_quotient_113 : decode cX2_quotient 113 = .ok (.invokestatic 66, 3) := by decide +kernel
theorem dX2_quotient_116 : decode cX2_quotient 116 = .ok (.lstore 7, 2) := by decide +kernel
theorem dX2_quotient_118 : decode cX2_quotient 118 = .ok (.iinc 9 1, 3) := by decide +kernel
theorem dX2_quotient_121 : decode cX2_quotient 121 = .ok (.goto (-108), 3) := by decide +kernel
theorem dX2_quotient_124 : decode cX2_quotient 124 = .ok (.lload 5, 2) := by decide +kernel
theorem dX2_quotient_126 : decode cX2_quotient 126 = .ok (.lload 7, 2) := by decide +kernel
theorem dX2_quotient_128 : decode cX2_quotient 128 = .ok (.lcmp, 1) := by decide +kernel
theorem dX2_quotient_129 : decode cX2_quotient 129 = .ok (.ifCond .le 7, 3) := by decide +kernel
theorem dX2_quotient_132 : decode cX2_quotient 132 = .ok (.iconst 0, 1) := by decide +kernel
theorem dX2_quotient_133 : decode cX2_quotient 133 = .ok (.goto 11, 3) := by decide +kernel
theorem dX2_quotient_136 : decode cX2_quotient 136 = .ok (.aload_n 0, 1) := by decide +kernel
theorem dX2_quotient_137 : decode cX2_quotient 137 = .ok (.lload 5, 2) := by decide +kernel
theorem dX2_quotient_139 : decode cX2_quotient 139 = .ok (.lload 7, 2) := by decide +kernel
theorem dX2_quotient_141 : decode cX2_quotient 141 = .ok (.invokevirtual 59, 3) := by decide +kernel
theorem dX2_quotient_144 : decode cX2_quotient 144 = .ok (.ireturn, 1) := by decide +kernel
set_option maxRecDepth 20000 in
theorem ggX2_rest_X2_tell : GoodIn wsX2_rest wsX2_tell := goodIn_r _ [15, 16, 17, 18, 19, 20, 21, 22, 23, 24, 14, 25, 26, 27, 28, 29, 3, 30, 31, 32, 33, 34, 35, 36, 37, 38, 39, 40, 41, 42] (by decide +kernel) (by decide +kernel)
set_option maxRecDepth 20000 in
theorem gX2_rest_X2_tell : GoodIn wsX2_rest (wsV RX2 59 RX2 yX2_tell wsX2_tell) := goodIn_app (goodIn_of _ (by decide +kernel)) ggX2_rest_X2_tell
theorem dX2_rest_0 : decode cX2_rest 0 = .ok (.lload_n 3, 1) := by decide +kernel
theorem dX2_rest_1 : decode cX2_rest 1 = .ok (.lconst 0, 1) := by decide +kernel
theorem dX2_rest_2 : decode cX2_rest 2 = .ok (.lcmp, 1) := by decide +kernel
theorem dX2_rest_3 : decode cX2_rest 3 = .ok (.ifCond .ne 12, 3) := by decide +kernel
theorem dX2_rest_6 : decode cX2_rest 6 = .ok (.lload 5, 2) := by decide +kernel
theorem dX2_rest_8 : decode cX2_rest 8 = .ok (.lconst 0, 1) := by decide +kernel
theorem dX2_rest_9 : decode cX2_rest 9 = .ok (.lcmp, 1) := by decide +kernel
theorem dX2_rest_10 : decode cX2_rest 10 = .ok (.ifCond .ne 5, 3) := by decide +kernel
theorem dX2_rest_13 : decode cX2_rest 13 = .ok (.iconst 0, 1) := by decide +kernel
theorem dX2_rest_14 : decode cX2_rest 14 = .ok (.ireturn, 1) := by decide +kernel
theorem dX2_rest_15 : decode cX2_rest 15 = .ok (.lload_n 3, 1) := by decide +kernel
theorem dX2_rest_16 : decode cX2_rest 16 = .ok (.invokestatic 100, 3) := by decide +kernel
theorem dX2_rest_19 : decode cX2_rest 19 = .ok (.lload 5, 2) := by decide +kernel
theorem dX2_rest_21 : decode cX2_rest 21 = .ok (.invokestatic 100, 3) := by decide +kernel
theorem dX2_rest_24 : decode cX2_rest 24 = .ok (.invokestatic 66, 3) := by decide +kernel
theorem dX2_rest_27 : decode cX2_rest 27 = .ok (.lconst 1, 1) := by decide +kernel
theorem dX2_rest_28 : decode cX2_rest 28 = .ok (.lsub, 1) := by decide +kernel
theorem dX2_rest_29 : decode cX2_rest 29 = .ok (.lstore 7, 2) := by decide +kernel
theorem dX2_rest_31 : decode cX2_rest 31 = .ok (.iload_n 1, 1) := by decide +kernel
theorem dX2_rest_32 : decode cX2_rest 32 = .ok (.ifCond .lt 16, 3) := by decide +kernel
theorem dX2_rest_35 : decode cX2_rest 35 = .ok (.aload_n 0, 1) := by decide +kernel
theorem dX2_rest_36 : decode cX2_rest 36 = .ok (.lconst 0, 1) := by decide +kernel
theorem dX2_rest_37 : decode cX2_rest 37 = .ok (.iload_n 2, 1) := by decide +kernel
theorem dX2_rest_38 : decode cX2_rest 38 = .ok (.i2l, 1) := by decide +kernel
theorem dX2_rest_39 : decode cX2_rest 39 = .ok (.lload 7, 2) := by decide +kernel
theorem dX2_rest_41 : decode cX2_rest 41 = .ok (.invokestatic 63, 3) := by decide +kernel
theorem dX2_rest_44 : decode cX2_rest 44 = .ok (.invokevirtual 59, 3) := by decide +kernel
theorem dX2_rest_47 : decode cX2_rest 47 = .ok (.ireturn, 1) := by decide +kernel
theorem dX2_rest_48 : decode cX2_rest 48 = .ok (.aload_n 0, 1) := by decide +kernel
theorem dX2_rest_49 : decode cX2_rest 49 = .ok (.iload_n 1, 1) := by decide +kernel
theorem dX2_rest_50 : decode cX2_rest 50 = .ok (.i2l, 1) := by decide +kernel
theorem dX2_rest_51 : decode cX2_rest 51 = .ok (.lload 7, 2) := by decide +kernel
theorem dX2_rest_53 : decode cX2_rest 53 = .ok (.lneg, 1) := by decide +kernel
theorem dX2_rest_54 : decode cX2_rest 54 = .ok (.invokestatic 66, 3) := by decide +kernel
theorem dX2_rest_57 : decode cX2_rest 57 = .ok (.iload_n 2, 1) := by decide +kernel
theorem dX2_rest_58 : decode cX2_rest 58 = .ok (.ifCond .gt 7, 3) := by decide +kernel
theorem dX2_rest_61 : decode cX2_rest 61 = .ok (.lconst 0, 1) := by decide +kernel
theorem dX2_rest_62 : decode cX2_rest 62 = .ok (.goto 10, 3) := by decide +kernel
theorem dX2_rest_65 : decode cX2_rest 65 = .ok (.iload_n 2, 1) := by decide +kernel
theorem dX2_rest_66 : decode cX2_rest 66 = .ok (.i2l, 1) := by decide +kernel
theorem dX2_rest_67 : decode cX2_rest 67 = .ok (.lload 7, 2) := by decide +kernel
theorem dX2_rest_69 : decode cX2_rest 69 = .ok (.invokestatic 63, 3) := by decide +kernel
theorem dX2_rest_72 : decode cX2_rest 72 = .ok (.invokevirtual 59, 3) := by decide +kernel
theorem dX2_rest_75 : decode cX2_rest 75 = .ok (.ireturn, 1) := by decide +kernel
theorem dX2_low_0 : decode cX2_low 0 = .ok (.aload_n 0, 1) := by decide +kernel
theorem dX2_low_1 : decode cX2_low 1 = .ok (.getfield 53, 3) := by decide +kernel
theorem dX2_low_4 : decode cX2_low 4 = .ok (.ireturn, 1) := by decide +kernel
theorem dX2_high_0 : decode cX2_high 0 = .ok (.aload_n 0, 1) := by decide +kernel
theorem dX2_high_1 : decode cX2_high 1 = .ok (.getfield 56, 3) := by decide +kernel
theorem dX2_high_4 : decode cX2_high 4 = .ok (.ireturn, 1) := by decide +kernel
theorem dJ9_abs_067f4_0 : decode cJ9_abs_067f4 0 = .ok (.lload_n 0, 1) := by decide +kernel
theorem dJ9_abs_067f4_1 : decode cJ9_abs_067f4 1 = .ok (.lconst 0, 1) := by decide +kernel
theorem dJ9_abs_067f4_2 : decode cJ9_abs_067f4 2 = .ok (.lcmp, 1) := by decide +kernel
theorem dJ9_abs_067f4_3 : decode cJ9_abs_067f4 3 = .ok (.ifCond .ge 8, 3) := by decide +kernel
theorem dJ9_abs_067f4_6 : decode cJ9_abs_067f4 6 = .ok (.lload_n 0, 1) := by decide +kernel
theorem dJ9_abs_067f4_7 : decode cJ9_abs_067f4 7 = .ok (.lneg, 1) := by decide +kernel
theorem dJ9_abs_067f4_8 : decode cJ9_abs_067f4 8 = .ok (.goto 4, 3) := by decide +kernel
theorem dJ9_abs_067f4_11 : decode cJ9_abs_067f4 11 = .ok (.lload_n 0, 1) := by decide +kernel
theorem dJ9_abs_067f4_12 : decode cJ9_abs_067f4 12 = .ok (.lreturn, 1) := by decide +kernel
theorem dJ9_max_7cf53_0 : decode cJ9_max_7cf53 0 = .ok (.iload_n 0, 1) := by decide +kernel
theorem dJ9_max_7cf53_1 : decode cJ9_max_7cf53 1 = .ok (.iload_n 1, 1) := by decide +kernel
theorem dJ9_max_7cf53_2 : decode cJ9_max_7cf53 2 = .ok (.if_icmp .lt 7, 3) := by decide +kernel
theorem dJ9_max_7cf53_5 : decode cJ9_max_7cf53 5 = .ok (.iload_n 0, 1) := by decide +kernel
theorem dJ9_max_7cf53_6 : decode cJ9_max_7cf53 6 = .ok (.goto 4, 3) := by decide +kernel
theorem dJ9_max_7cf53_9 : decode cJ9_max_7cf53 9 = .ok (.iload_n 1, 1) := by decide +kernel
theorem dJ9_max_7cf53_10 : decode cJ9_max_7cf53 10 = .ok (.ireturn, 1) := by decide +kernel
theorem dJ9_max_f86c9_0 : decode cJ9_max_f86c9 0 = .ok (.lload_n 0, 1) := by decide +kernel
theorem dJ9_max_f86c9_1 : decode cJ9_max_f86c9 1 = .ok (.lload_n 2, 1) := by decide +kernel
theorem dJ9_max_f86c9_2 : decode cJ9_max_f86c9 2 = .ok (.lcmp, 1) := by decide +kernel
theorem dJ9_max_f86c9_3 : decode cJ9_max_f86c9 3 = .ok (.ifCond .lt 7, 3) := by decide +kernel
theorem dJ9_max_f86c9_6 : decode cJ9_max_f86c9 6 = .ok (.lload_n 0, 1) := by decide +kernel
theorem dJ9_max_f86c9_7 : decode cJ9_max_f86c9 7 = .ok (.goto 4, 3) := by decide +kernel
theorem dJ9_max_f86c9_10 : decode cJ9_max_f86c9 10 = .ok (.lload_n 2, 1) := by decide +kernel
theorem dJ9_max_f86c9_11 : decode cJ9_max_f86c9 11 = .ok (.lreturn, 1) := by decide +kernel
theorem dJ9_min_7cf53_0 : decode cJ9_min_7cf53 0 = .ok (.iload_n 0, 1) := by decide +kernel
theorem dJ9_min_7cf53_1 : decode cJ9_min_7cf53 1 = .ok (.iload_n 1, 1) := by decide +kernel
theorem dJ9_min_7cf53_2 : decode cJ9_min_7cf53 2 = .ok (.if_icmp .gt 7, 3) := by decide +kernel
theorem dJ9_min_7cf53_5 : decode cJ9_min_7cf53 5 = .ok (.iload_n 0, 1) := by decide +kernel
theorem dJ9_min_7cf53_6 : decode cJ9_min_7cf53 6 = .ok (.goto 4, 3) := by decide +kernel
theorem dJ9_min_7cf53_9 : decode cJ9_min_7cf53 9 = .ok (.iload_n 1, 1) := by decide +kernel
theorem dJ9_min_7cf53_10 : decode cJ9_min_7cf53 10 = .ok (.ireturn, 1) := by decide +kernel
theorem dJ9_min_f86c9_0 : decode cJ9_min_f86c9 0 = .ok (.lload_n 0, 1) := by decide +kernel
theorem dJ9_min_f86c9_1 : decode cJ9_min_f86c9 1 = .ok (.lload_n 2, 1) := by decide +kernel
theorem dJ9_min_f86c9_2 : decode cJ9_min_f86c9 2 = .ok (.lcmp, 1) := by decide +kernel
theorem dJ9_min_f86c9_3 : decode cJ9_min_f86c9 3 = .ok (.ifCond .gt 7, 3) := by decide +kernel
theorem dJ9_min_f86c9_6 : decode cJ9_min_f86c9 6 = .ok (.lload_n 0, 1) := by decide +kernel
theorem dJ9_min_f86c9_7 : decode cJ9_min_f86c9 7 = .ok (.goto 4, 3) := by decide +kernel
theorem dJ9_min_f86c9_10 : decode cJ9_min_f86c9 10 = .ok (.lload_n 2, 1) := by decide +kernel
theorem dJ9_min_f86c9_11 : decode cJ9_min_f86c9 11 = .ok (.lreturn, 1) := by decide +kernel
