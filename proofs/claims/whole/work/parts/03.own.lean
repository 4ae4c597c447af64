set_option maxRecDepth 20000 in
theorem ggX1_init_X0_init : GoodIn wsX1_init wsX0_init := goodIn_r _ [20, 21, 2, 3] (by decide +kernel) (by decide +kernel)
set_option maxRecDepth 20000 in
theorem gX1_init_X0_init_n37 : GoodIn wsX1_init (wsX0_init) := ggX1_init_X0_init
theorem dX1_init_0 : decode cX1_init 0 = .ok (.aload_n 0, 1) := by decide +kernel
theorem dX1_init_1 : decode cX1_init 1 = .ok (.invokespecial 1, 3) := by decide +kernel
theorem dX1_init_4 : decode cX1_init 4 = .ok (.aload_n 0, 1) := by decide +kernel
theorem dX1_init_5 : decode cX1_init 5 = .ok (.getstatic 7, 3) := by decide +kernel
theorem dX1_init_8 : decode cX1_init 8 = .ok (.arraylength, 1) := by decide +kernel
theorem dX1_init_9 : decode cX1_init 9 = .ok (.sipush 180, 3) := by decide +kernel
theorem dX1_init_12 : decode cX1_init 12 = .ok (.iadd, 1) := by decide +kernel
theorem dX1_init_13 : decode cX1_init 13 = .ok (.newarray .int, 2) := by decide +kernel
theorem dX1_init_15 : decode cX1_init 15 = .ok (.putfield 13, 3) := by decide +kernel
theorem dX1_init_18 : decode cX1_init 18 = .ok (.getstatic 7, 3) := by decide +kernel
theorem dX1_init_21 : decode cX1_init 21 = .ok (.iconst 0, 1) := by decide +kernel
theorem dX1_init_22 : decode cX1_init 22 = .ok (.aload_n 0, 1) := by decide +kernel
theorem dX1_init_23 : decode cX1_init 23 = .ok (.getfield 13, 3) := by decide +kernel
theorem dX1_init_26 : decode cX1_init 26 = .ok (.iconst 0, 1) := by decide +kernel
theorem dX1_init_27 : decode cX1_init 27 = .ok (.getstatic 7, 3) := by decide +kernel
theorem dX1_init_30 : decode cX1_init 30 = .ok (.arraylength, 1) := by decide +kernel
theorem dX1_init_31 : decode cX1_init 31 = .ok (.invokestatic 16, 3) := by decide +kernel
theorem dX1_init_34 : decode cX1_init 34 = .ok (.aload_n 0, 1) := by decide +kernel
theorem dX1_init_35 : decode cX1_init 35 = .ok (.getstatic 7, 3) := by decide +kernel
theorem dX1_init_38 : decode cX1_init 38 = .ok (.arraylength, 1) := by decide +kernel
theorem dX1_init_39 : decode cX1_init 39 = .ok (.putfield 22, 3) := by decide +kernel
theorem dX1_init_42 : decode cX1_init 42 = .ok (.aload_n 0, 1) := by decide +kernel
theorem dX1_init_43 : decode cX1_init 43 = .ok (.iconst 0, 1) := by decide +kernel
theorem dX1_init_44 : decode cX1_init 44 = .ok (.putfield 26, 3) := by decide +kernel
theorem dX1_init_47 : decode cX1_init 47 = .ok (.aload_n 0, 1) := by decide +kernel
theorem dX1_init_48 : decode cX1_init 48 = .ok (.iconst 0, 1) := by decide +kernel
theorem dX1_init_49 : decode cX1_init 49 = .ok (.putfield 29, 3) := by decide +kernel
theorem dX1_init_52 : decode cX1_init 52 = .ok (.aload_n 0, 1) := by decide +kernel
theorem dX1_init_53 : decode cX1_init 53 = .ok (.iconst 0, 1) := by decide +kernel
theorem dX1_init_54 : decode cX1_init 54 = .ok (.putfield 32, 3) := by decide +kernel
theorem dX1_init_57 : decode cX1_init 57 = .ok (.aload_n 0, 1) := by decide +kernel
theorem dX1_init_58 : decode cX1_init 58 = .ok (.new 35, 3) := by decide +kernel
theorem dX1_init_61 : decode cX1_init 61 = .ok (.dup, 1) := by decide +kernel
theorem dX1_init_62 : decode cX1_init 62 = .ok (.invokespecial 37, 3) := by decide +kernel
theorem dX1_init_65 : decode cX1_init 65 = .ok (.putfield 38, 3) := by decide +kernel
theorem dX1_init_68 : decode cX1_init 68 = .ok (.return_, 1) := by decide +kernel
set_option maxRecDepth 20000 in
theorem ggX1_around_X1_addThreshold : GoodIn wsX1_around wsX1_addThreshold := goodIn_r _ [9, 4, 10, 11, 12, 13, 8, 14, 15, 16, 17, 18, 2, 19, 20, 21, 22, 23, 24] (by decide +kernel) (by decide +kernel)
set_option maxRecDepth 20000 in
theorem gX1_around_X1_addThreshold : GoodIn wsX1_around (wsV RX1 43 RX1 yX1_addThreshold wsX1_addThreshold) := goodIn_app (goodIn_of _ (by decide +kernel)) ggX1_around_X1_addThreshold
theorem dX1_around_0 : decode cX1_around 0 = .ok (.aload_n 0, 1) := by decide +kernel
theorem dX1_around_1 : decode cX1_around 1 = .ok (.getfield 26, 3) := by decide +kernel
theorem dX1_around_4 : decode cX1_around 4 = .ok (.bipush 60, 2) := by decide +kernel
theorem dX1_around_6 : decode cX1_around 6 = .ok (.if_icmp .lt 5, 3) := by decide +kernel
theorem dX1_around_9 : decode cX1_around 9 = .ok (.iconst (-1), 1) := by decide +kernel
theorem dX1_around_10 : decode cX1_around 10 = .ok (.ireturn, 1) := by decide +kernel
theorem dX1_around_11 : decode cX1_around 11 = .ok (.aload_n 0, 1) := by decide +kernel
theorem dX1_around_12 : decode cX1_around 12 = .ok (.dup, 1) := by decide +kernel
theorem dX1_around_13 : decode cX1_around 13 = .ok (.getfield 26, 3) := by decide +kernel
theorem dX1_around_16 : decode cX1_around 16 = .ok (.iconst 1, 1) := by decide +kernel
theorem dX1_around_17 : decode cX1_around 17 = .ok (.iadd, 1) := by decide +kernel
theorem dX1_around_18 : decode cX1_around 18 = .ok (.putfield 26, 3) := by decide +kernel
theorem dX1_around_21 : decode cX1_around 21 = .ok (.iload_n 1, 1) := by decide +kernel
theorem dX1_around_22 : decode cX1_around 22 = .ok (.ldc 42, 2) := by decide +kernel
theorem dX1_around_24 : decode cX1_around 24 = .ok (.if_icmp .le 10, 3) := by decide +kernel
theorem dX1_around_27 : decode cX1_around 27 = .ok (.aload_n 0, 1) := by decide +kernel
theorem dX1_around_28 : decode cX1_around 28 = .ok (.iload_n 1, 1) := by decide +kernel
theorem dX1_around_29 : decode cX1_around 29 = .ok (.iconst 1, 1) := by decide +kernel
theorem dX1_around_30 : decode cX1_around 30 = .ok (.isub, 1) := by decide +kernel
theorem dX1_around_31 : decode cX1_around 31 = .ok (.invokevirtual 43, 3) := by decide +kernel
theorem dX1_around_34 : decode cX1_around 34 = .ok (.aload_n 0, 1) := by decide +kernel
theorem dX1_around_35 : decode cX1_around 35 = .ok (.iload_n 1, 1) := by decide +kernel
theorem dX1_around_36 : decode cX1_around 36 = .ok (.invokevirtual 43, 3) := by decide +kernel
theorem dX1_around_39 : decode cX1_around 39 = .ok (.iload_n 1, 1) := by decide +kernel
theorem dX1_around_40 : decode cX1_around 40 = .ok (.ldc 47, 2) := by decide +kernel
theorem dX1_around_42 : decode cX1_around 42 = .ok (.if_icmp .ge 10, 3) := by decide +kernel
theorem dX1_around_45 : decode cX1_around 45 = .ok (.aload_n 0, 1) := by decide +kernel
theorem dX1_around_46 : decode cX1_around 46 = .ok (.iload_n 1, 1) := by decide +kernel
theorem dX1_around_47 : decode cX1_around 47 = .ok (.iconst 1, 1) := by decide +kernel
theorem dX1_around_48 : decode cX1_around 48 = .ok (.iadd, 1) := by decide +kernel
theorem dX1_around_49 : decode cX1_around 49 = .ok (.invokevirtual 43, 3) := by decide +kernel
theorem dX1_around_52 : decode cX1_around 52 = .ok (.aload_n 0, 1) := by decide +kernel
theorem dX1_around_53 : decode cX1_around 53 = .ok (.getfield 22, 3) := by decide +kernel
theorem dX1_around_56 : decode cX1_around 56 = .ok (.ireturn, 1) := by decide +kernel
theorem dX1_clear_0 : decode cX1_clear 0 = .ok (.aload_n 0, 1) := by decide +kernel
theorem dX1_clear_1 : decode cX1_clear 1 = .ok (.getstatic 7, 3) := by decide +kernel
theorem dX1_clear_4 : decode cX1_clear 4 = .ok (.arraylength, 1) := by decide +kernel
theorem dX1_clear_5 : decode cX1_clear 5 = .ok (.putfield 22, 3) := by decide +kernel
theorem dX1_clear_8 : decode cX1_clear 8 = .ok (.aload_n 0, 1) := by decide +kernel
theorem dX1_clear_9 : decode cX1_clear 9 = .ok (.iconst 0, 1) := by decide +kernel
theorem dX1_clear_10 : decode cX1_clear 10 = .ok (.putfield 26, 3) := by decide +kernel
theorem dX1_clear_13 : decode cX1_clear 13 = .ok (.return_, 1) := by decide +kernel
theorem dX1_size_0 : decode cX1_size 0 = .ok (.aload_n 0, 1) := by decide +kernel
theorem dX1_size_1 : decode cX1_size 1 = .ok (.getfield 22, 3) := by decide +kernel
theorem dX1_size_4 : decode cX1_size 4 = .ok (.ireturn, 1) := by decide +kernel
theorem dX1_down_0 : decode cX1_down 0 = .ok (.ldc 42, 2) := by decide +kernel
theorem dX1_down_2 : decode cX1_down 2 = .ok (.istore_n 2, 1) := by decide +kernel
theorem dX1_down_3 : decode cX1_down 3 = .ok (.iconst 0, 1) := by decide +kernel
theorem dX1_down_4 : decode cX1_down 4 = .ok (.istore_n 3, 1) := by decide +kernel
theorem dX1_down_5 : decode cX1_down 5 = .ok (.iload_n 3, 1) := by decide +kernel
theorem dX1_down_6 : decode cX1_down 6 = .ok (.aload_n 0, 1) := by decide +kernel
theorem dX1_down_7 : decode cX1_down 7 = .ok (.getfield 22, 3) := by decide +kernel
theorem dX1_down_10 : decode cX1_down 10 = .ok (.if_icmp .ge 32, 3) := by decide +kernel
theorem dX1_down_13 : decode cX1_down 13 = .ok (.aload_n 0, 1) := by decide +kernel
theorem dX1_down_14 : decode cX1_down 14 = .ok (.getfield 13, 3) := by decide +kernel
theorem dX1_down_17 : decode cX1_down 17 = .ok (.iload_n 3, 1) := by decide +kernel
theorem dX1_down_18 : decode cX1_down 18 = .ok (.iaload, 1) := by decide +kernel
theorem dX1_down_19 : decode cX1_down 19 = .ok (.istore 4, 2) := by decide +kernel
theorem dX1_down_21 : decode cX1_down 21 = .ok (.iload 4, 2) := by decide +kernel
theorem dX1_down_23 : decode cX1_down 23 = .ok (.iload_n 1, 1) := by decide +kernel
theorem dX1_down_24 : decode cX1_down 24 = .ok (.if_icmp .gt 12, 3) := by decide +kernel
theorem dX1_down_27 : decode cX1_down 27 = .ok (.iload 4, 2) := by decide +kernel
theorem dX1_down_29 : decode cX1_down 29 = .ok (.iload_n 2, 1) := by decide +kernel
theorem dX1_down_30 : decode cX1_down 30 = .ok (.if_icmp .le 6, 3) := by decide +kernel
theorem dX1_down_33 : decode cX1_down 33 = .ok (.iload 4, 2) := by decide +kernel
theorem dX1_down_35 : decode cX1_down 35 = .ok (.istore_n 2, 1) := by decide +kernel
theorem dX1_down_36 : decode cX1_down 36 = .ok (.iinc 3 1, 3) := by decide +kernel
theorem dX1_down_39 : decode cX1_down 39 = .ok (.goto (-34), 3) := by decide +kernel
theorem dX1_down_42 : decode cX1_down 42 = .ok (.iload_n 2, 1) := by decide +kernel
theorem dX1_down_43 : decode cX1_down 43 = .ok (.ireturn, 1) := by decide +kernel
theorem dX1_up_0 : decode cX1_up 0 = .ok (.ldc 47, 2) := by decide +kernel
theorem dX1_up_2 : decode cX1_up 2 = .ok (.istore_n 2, 1) := by decide +kernel
theorem dX1_up_3 : decode cX1_up 3 = .ok (.iconst 0, 1) := by decide +kernel
theorem dX1_up_4 : decode cX1_up 4 = .ok (.istore_n 3, 1) := by decide +kernel
theorem dX1_up_5 : decode cX1_up 5 = .ok (.iload_n 3, 1) := by decide +kernel
theorem dX1_up_6 : decode cX1_up 6 = .ok (.aload_n 0, 1) := by decide +kernel
theorem dX1_up_7 : decode cX1_up 7 = .ok (.getfield 22, 3) := by decide +kernel
theorem dX1_up_10 : decode cX1_up 10 = .ok (.if_icmp .ge 32, 3) := by decide +kernel
theorem dX1_up_13 : decode cX1_up 13 = .ok (.aload_n 0, 1) := by decide +kernel
theorem dX1_up_14 : decode cX1_up 14 = .ok (.getfield 13, 3) := by decide +kernel
theorem dX1_up_17 : decode cX1_up 17 = .ok (.iload_n 3, 1) := by decide +kernel
theorem dX1_up_18 : decode cX1_up 18 = .ok (.iaload, 1) := by decide +kernel
theorem dX1_up_19 : decode cX1_up 19 = .ok (.istore 4, 2) := by decide +kernel
theorem dX1_up_21 : decode cX1_up 21 = .ok (.iload 4, 2) := by decide +kernel
theorem dX1_up_23 : decode cX1_up 23 = .ok (.iload_n 1, 1) := by decide +kernel
theorem dX1_up_24 : decode cX1_up 24 = .ok (.if_icmp .lt 12, 3) := by decide +kernel
theorem dX1_up_27 : decode cX1_up 27 = .ok (.iload 4, 2) := by decide +kernel
theorem dX1_up_29 : decode cX1_up 29 = .ok (.iload_n 2, 1) := by decide +kernel
theorem dX1_up_30 : decode cX1_up 30 = .ok (.if_icmp .ge 6, 3) := by decide +kernel
theorem dX1_up_33 : decode cX1_up 33 = .ok (.iload 4, 2) := by decide +kernel
theorem dX1_up_35 : decode cX1_up 35 = .ok (.istore_n 2, 1) := by decide +kernel
theorem dX1_up_36 : decode cX1_up 36 = .ok (.iinc 3 1, 3) := by decide +kernel
theorem dX1_up_39 : decode cX1_up 39 = .ok (.goto (-34), 3) := by decide +kernel
theorem dX1_up_42 : decode cX1_up 42 = .ok (.iload_n 2, 1) := by decide +kernel
theorem dX1_up_43 : decode cX1_up 43 = .ok (.ireturn, 1) := by decide +kernel
set_option maxRecDepth 20000 in
theorem ggX1_work_X1_isRange : GoodIn wsX1_work wsX1_isRange := goodIn_r _ [5, 6, 7, 8, 4, 9, 10, 11, 12, 13, 14, 15, 16, 103, 104, 105, 106, 107, 108] (by decide +kernel) (by decide +kernel)
set_option maxRecDepth 20000 in
theorem gX1_work_X1_isRange : GoodIn wsX1_work (wsV RX1 48 RX1 yX1_isRange wsX1_isRange) := goodIn_app (goodIn_of _ (by decide +kernel)) ggX1_work_X1_isRange
set_option maxRecDepth 20000 in
theorem ggX1_work_X1_tell : GoodIn wsX1_work wsX1_tell := goodIn_r _ [20, 21, 22, 23, 24, 4, 25, 26, 27, 10, 11, 12, 13, 14, 15, 16, 28, 29, 30, 31, 32, 33, 34, 35, 36, 103, 104, 105, 106, 107, 108] (by decide +kernel) (by decide +kernel)
set_option maxRecDepth 20000 in
theorem gX1_work_X1_tell : GoodIn wsX1_work (wsV RX1 52 RX1 yX1_tell wsX1_tell) := goodIn_app (goodIn_of _ (by decide +kernel)) ggX1_work_X1_tell
set_option maxRecDepth 20000 in
theorem ggX1_work_X1_multiply : GoodIn wsX1_work wsX1_multiply := goodIn_r _ [40, 41, 42, 43, 44, 45, 46, 47, 48, 49, 50, 51, 52, 53, 54, 55, 56, 57, 58, 59, 17, 18, 19, 4, 20, 21, 22, 23, 24, 25, 26, 27, 10, 11, 12, 13, 14, 15, 16, 28, 29, 30, 31, 32, 33, 34, 35, 36, 103, 104, 105, 106, 107, 108, 109, 110] (by decide +kernel) (by decide +kernel)
set_option maxRecDepth 20000 in
theorem gX1_work_X1_multiply : GoodIn wsX1_work (wsV RX1 56 RX1 yX1_multiply wsX1_multiply) := goodIn_app (goodIn_of _ (by decide +kernel)) ggX1_work_X1_multiply
set_option maxRecDepth 20000 in
theorem ggX1_work_X1_divide : GoodIn wsX1_work wsX1_divide := goodIn_r _ [63, 41, 64, 42, 43, 44, 45, 46, 47, 48, 49, 65, 66, 67, 4, 68, 50, 51, 52, 53, 54, 55, 56, 57, 58, 59, 17, 18, 19, 20, 21, 22, 23, 24, 25, 26, 27, 10, 11, 12, 13, 14, 15, 16, 28, 29, 30, 31, 32, 33, 34, 35, 36, 103, 104, 105, 106, 107, 108, 109, 110] (by decide +kernel) (by decide +kernel)
set_option maxRecDepth 20000 in
theorem gX1_work_X1_divide : GoodIn wsX1_work (wsV RX1 60 RX1 yX1_divide wsX1_divide) := goodIn_app (goodIn_of _ (by decide +kernel)) ggX1_work_X1_divide
set_option maxRecDepth 20000 in
theorem ggX1_work_X1_rest : GoodIn wsX1_work wsX1_rest := goodIn_r _ [72, 73, 74, 55, 75, 76, 58, 59, 77, 54, 56, 17, 18, 19, 4, 20, 21, 22, 23, 24, 25, 26, 27, 10, 11, 12, 13, 14, 15, 16, 28, 29, 30, 31, 32, 33, 34, 35, 36, 103, 104, 105, 106, 107, 108] (by decide +kernel) (by decide +kernel)
set_option maxRecDepth 20000 in
theorem gX1_work_X1_rest : GoodIn wsX1_work (wsV RX1 63 RX1 yX1_rest wsX1_rest) := goodIn_app (goodIn_of _ (by decide +kernel)) ggX1_work_X1_rest
set_option maxRecDepth 20000 in
theorem ggX1_work_X1_and : GoodIn wsX1_work wsX1_and := goodIn_r _ [81, 82, 83, 55, 84, 33, 34, 35, 4, 36, 14, 21, 32, 22, 17, 18, 19, 20, 23, 24, 25, 26, 27, 10, 11, 12, 13, 15, 16, 28, 29, 30, 31, 103, 104, 105, 106, 107, 108] (by decide +kernel) (by decide +kernel)
set_option maxRecDepth 20000 in
theorem gX1_work_X1_and : GoodIn wsX1_work (wsV RX1 66 RX1 yX1_and wsX1_and) := goodIn_app (goodIn_of _ (by decide +kernel)) ggX1_work_X1_and
set_option maxRecDepth 20000 in
theorem ggX1_work_X1_orOrXor : GoodIn wsX1_work wsX1_orOrXor := goodIn_r _ [88, 89, 90, 55, 91, 33, 34, 35, 4, 36, 14, 21, 32, 22, 92, 93, 94, 17, 18, 19, 20, 23, 24, 25, 26, 27, 10, 11, 12, 13, 15, 16, 28, 29, 30, 31, 103, 104, 105, 106, 107, 108] (by decide +kernel) (by decide +kernel)
set_option maxRecDepth 20000 in
theorem gX1_work_X1_orOrXor : GoodIn wsX1_work (wsV RX1 70 RX1 yX1_orOrXor wsX1_orOrXor) := goodIn_app (goodIn_of _ (by decide +kernel)) ggX1_work_X1_orOrXor
set_option maxRecDepth 20000 in
theorem ggX1_work_X1_shiftLeft : GoodIn wsX1_work wsX1_shiftLeft := goodIn_r _ [98, 37, 38, 39, 4, 40, 41, 42, 43, 44, 45, 46, 47, 48, 49, 50, 51, 52, 53, 54, 55, 56, 57, 58, 59, 17, 18, 19, 20, 21, 22, 23, 24, 25, 26, 27, 10, 11, 12, 13, 14, 15, 16, 28, 29, 30, 31, 32, 33, 34, 35, 36, 103, 104, 105, 106, 107, 108, 109, 110] (by decide +kernel) (by decide +kernel)
set_option maxRecDepth 20000 in
theorem gX1_work_X1_shiftLeft : GoodIn wsX1_work (wsV RX1 73 RX1 yX1_shiftLeft wsX1_shiftLeft) := goodIn_app (goodIn_of _ (by decide +kernel)) ggX1_work_X1_shiftLeft
set_option maxRecDepth 20000 in
theorem ggX1_work_X1_shiftRight : GoodIn wsX1_work wsX1_shiftRight := goodIn_r _ [102, 82, 83, 55, 84, 89, 90, 91, 17, 18, 19, 4, 20, 21, 22, 23, 24, 25, 26, 27, 10, 11, 12, 13, 14, 15, 16, 28, 29, 30, 31, 32, 33, 34, 35, 36, 103, 104, 105, 106, 107, 108] (by decide +kernel) (by decide +kernel)
set_option maxRecDepth 20000 in
theorem gX1_work_X1_shiftRight : GoodIn wsX1_work (wsV RX1 76 RX1 yX1_shiftRight wsX1_shiftRight) := goodIn_app (goodIn_of _ (by decide +kernel)) ggX1_work_X1_shiftRight
theorem dX1_work_0 : decode cX1_work 0 = .ok (.iload_n 1, 1) := by decide +kernel
theorem dX1_work_1 : decode cX1_work 1 = .ok (.ifCond .lt 29, 3) := by decide +kernel
theorem dX1_work_4 : decode cX1_work 4 = .ok (.iload_n 1, 1) := by decide +kernel
theorem dX1_work_5 : decode cX1_work 5 = .ok (.bipush 9, 2) := by decide +kernel
theorem dX1_work_7 : decode cX1_work 7 = .ok (.if_icmp .gt 23, 3) := by decide +kernel
theorem dX1_work_10 : decode cX1_work 10 = .ok (.aload_n 0, 1) := by decide +kernel
theorem dX1_work_11 : decode cX1_work 11 = .ok (.iload_n 2, 1) := by decide +kernel
theorem dX1_work_12 : decode cX1_work 12 = .ok (.iload_n 3, 1) := by decide +kernel
theorem dX1_work_13 : decode cX1_work 13 = .ok (.invokevirtual 48, 3) := by decide +kernel
theorem dX1_work_16 : decode cX1_work 16 = .ok (.ifCond .eq 14, 3) := by decide +kernel
theorem dX1_work_19 : decode cX1_work 19 = .ok (.aload_n 0, 1) := by decide +kernel
theorem dX1_work_20 : decode cX1_work 20 = .ok (.iload 4, 2) := by decide +kernel
theorem dX1_work_22 : decode cX1_work 22 = .ok (.iload 5, 2) := by decide +kernel
theorem dX1_work_24 : decode cX1_work 24 = .ok (.invokevirtual 48, 3) := by decide +kernel
theorem dX1_work_27 : decode cX1_work 27 = .ok (.ifCond .ne 5, 3) := by decide +kernel
theorem dX1_work_30 : decode cX1_work 30 = .ok (.iconst (-1), 1) := by decide +kernel
theorem dX1_work_31 : decode cX1_work 31 = .ok (.ireturn, 1) := by decide +kernel
theorem dX1_work_32 : decode cX1_work 32 = .ok (.iload_n 1, 1) := by decide +kernel
theorem dX1_work_33 : decode cX1_work 33 = .ok (.iconst 3, 1) := by decide +kernel
theorem dX1_work_34 : decode cX1_work 34 = .ok (.if_icmp .eq 8, 3) := by decide +kernel
theorem dX1_work_37 : decode cX1_work 37 = .ok (.iload_n 1, 1) := by decide +kernel
theorem dX1_work_38 : decode cX1_work 38 = .ok (.iconst 4, 1) := by decide +kernel
theorem dX1_work_39 : decode cX1_work 39 = .ok (.if_icmp .ne 15, 3) := by decide +kernel
theorem dX1_work_42 : decode cX1_work 42 = .ok (.iload 4, 2) := by decide +kernel
theorem dX1_work_44 : decode cX1_work 44 = .ok (.ifCond .ne 10, 3) := by decide +kernel
theorem dX1_work_47 : decode cX1_work 47 = .ok (.iload 5, 2) := by decide +kernel
theorem dX1_work_49 : decode cX1_work 49 = .ok (.ifCond .ne 5, 3) := by decide +kernel
theorem dX1_work_52 : decode cX1_work 52 = .ok (.iconst 0, 1) := by decide +kernel
theorem dX1_work_53 : decode cX1_work 53 = .ok (.ireturn, 1) := by decide +kernel
theorem dX1_work_54 : decode cX1_work 54 = .ok (.iload_n 1, 1) := by decide +kernel
theorem dX1_work_55 : decode cX1_work 55 = .ok (.tableswitch 177 0 8 #[49, 68, 87, 104, 121, 138, 151, 151, 164], 49) := by decide +kernel
theorem dX1_work_104 : decode cX1_work 104 = .ok (.aload_n 0, 1) := by decide +kernel
theorem dX1_work_105 : decode cX1_work 105 = .ok (.iload_n 2, 1) := by decide +kernel
theorem dX1_work_106 : decode cX1_work 106 = .ok (.i2l, 1) := by decide +kernel
theorem dX1_work_107 : decode cX1_work 107 = .ok (.iload 4, 2) := by decide +kernel
theorem dX1_work_109 : decode cX1_work 109 = .ok (.i2l, 1) := by decide +kernel
theorem dX1_work_110 : decode cX1_work 110 = .ok (.ladd, 1) := by decide +kernel
theorem dX1_work_111 : decode cX1_work 111 = .ok (.iload_n 3, 1) := by decide +kernel
theorem dX1_work_112 : decode cX1_work 112 = .ok (.i2l, 1) := by decide +kernel
theorem dX1_work_113 : decode cX1_work 113 = .ok (.iload 5, 2) := by decide +kernel
theorem dX1_work_115 : decode cX1_work 115 = .ok (.i2l, 1) := by decide +kernel
theorem dX1_work_116 : decode cX1_work 116 = .ok (.ladd, 1) := by decide +kernel
theorem dX1_work_117 : decode cX1_work 117 = .ok (.invokevirtual 52, 3) := by decide +kernel
theorem dX1_work_120 : decode cX1_work 120 = .ok (.goto 122, 3) := by decide +kernel
theorem dX1_work_123 : decode cX1_work 123 = .ok (.aload_n 0, 1) := by decide +kernel
theorem dX1_work_124 : decode cX1_work 124 = .ok (.iload_n 2, 1) := by decide +kernel
theorem dX1_work_125 : decode cX1_work 125 = .ok (.i2l, 1) := by decide +kernel
theorem dX1_work_126 : decode cX1_work 126 = .ok (.iload 5, 2) := by decide +kernel
theorem dX1_work_128 : decode cX1_work 128 = .ok (.i2l, 1) := by decide +kernel
theorem dX1_work_129 : decode cX1_work 129 = .ok (.lsub, 1) := by decide +kernel
theorem dX1_work_130 : decode cX1_work 130 = .ok (.iload_n 3, 1) := by decide +kernel
theorem dX1_work_131 : decode cX1_work 131 = .ok (.i2l, 1) := by decide +kernel
theorem dX1_work_132 : decode cX1_work 132 = .ok (.iload 4, 2) := by decide +kernel
theorem dX1_work_134 : decode cX1_work 134 = .ok (.i2l, 1) := by decide +kernel
theorem dX1_work_135 : decode cX1_work 135 = .ok (.lsub, 1) := by decide +kernel
theorem dX1_work_136 : decode cX1_work 136 = .ok (.invokevirtual 52, 3) := by decide +kernel
theorem dX1_work_139 : decode cX1_work 139 = .ok (.goto 103, 3) := by decide +kernel
theorem dX1_work_142 : decode cX1_work 142 = .ok (.aload_n 0, 1) := by decide +kernel
theorem dX1_work_143 : decode cX1_work 143 = .ok (.iload_n 2, 1) := by decide +kernel
theorem dX1_work_144 : decode cX1_work 144 = .ok (.i2l, 1) := by decide +kernel
theorem dX1_work_145 : decode cX1_work 145 = .ok (.iload_n 3, 1) := by decide +kernel
theorem dX1_work_146 : decode cX1_work 146 = .ok (.i2l, 1) := by decide +kernel
theorem dX1_work_147 : decode cX1_work 147 = .ok (.iload 4, 2) := by decide +kernel
theorem dX1_work_149 : decode cX1_work 149 = .ok (.i2l, 1) := by decide +kernel
theorem dX1_work_150 : decode cX1_work 150 = .ok (.iload 5, 2) := by decide +kernel
theorem dX1_work_152 : decode cX1_work 152 = .ok (.i2l, 1) := by decide +kernel
theorem dX1_work_153 : decode cX1_work 153 = .ok (.invokevirtual 56, 3) := by decide +kernel
theorem dX1_work_156 : decode cX1_work 156 = .ok (.goto 86, 3) := by decide +kernel
theorem dX1_work_159 : decode cX1_work 159 = .ok (.aload_n 0, 1) := by decide +kernel
theorem dX1_work_160 : decode cX1_work 160 = .ok (.iload_n 2, 1) := by decide +kernel
theorem dX1_work_161 : decode cX1_work 161 = .ok (.i2l, 1) := by decide +kernel
theorem dX1_work_162 : decode cX1_work 162 = .ok (.iload_n 3, 1) := by decide +kernel
theorem dX1_work_163 : decode cX1_work 163 = .ok (.i2l, 1) := by decide +kernel
theorem dX1_work_164 : decode cX1_work 164 = .ok (.iload 4, 2) := by decide +kernel
theorem dX1_work_166 : decode cX1_work 166 = .ok (.i2l, 1) := by decide +kernel
theorem dX1_work_167 : decode cX1_work 167 = .ok (.iload 5, 2) := by decide +kernel
theorem dX1_work_169 : decode cX1_work 169 = .ok (.i2l, 1) := by decide +kernel
theorem dX1_work_170 : decode cX1_work 170 = .ok (.invokevirtual 60, 3) := by decide +kernel
theorem dX1_work_173 : decode cX1_work 173 = .ok (.goto 69, 3) := by decide +kernel
theorem dX1_work_176 : decode cX1_work 176 = .ok (.aload_n 0, 1) := by decide +kernel
theorem dX1_work_177 : decode cX1_work 177 = .ok (.iload_n 2, 1) := by decide +kernel
theorem dX1_work_178 : decode cX1_work 178 = .ok (.i2l, 1) := by decide +kernel
theorem dX1_work_179 : decode cX1_work 179 = .ok (.iload_n 3, 1) := by decide +kernel
theorem dX1_work_180 : decode cX1_work 180 = .ok (.i2l, 1) := by decide +kernel
theorem dX1_work_181 : decode cX1_work 181 = .ok (.iload 4, 2) := by decide +kernel
theorem dX1_work_183 : decode cX1_work 183 = .ok (.i2l, 1) := by decide +kernel
theorem dX1_work_184 : decode cX1_work 184 = .ok (.iload 5, 2) := by decide +kernel
theorem dX1_work_186 : decode cX1_work 186 = .ok (.i2l, 1) := by decide +kernel
theorem dX1_work_187 : decode cX1_work 187 = .ok (.invokevirtual 63, 3) := by decide +kernel
theorem dX1_work_190 : decode cX1_work 190 = .ok (.goto 52, 3) := by decide +kernel
theorem dX1_work_193 : decode cX1_work 193 = .ok (.aload_n 0, 1) := by decide +kernel
theorem dX1_work_194 : decode cX1_work 194 = .ok (.iload_n 2, 1) := by decide +kernel
theorem dX1_work_195 : decode cX1_work 195 = .ok (.iload_n 3, 1) := by decide +kernel
theorem dX1_work_196 : decode cX1_work 196 = .ok (.iload 4, 2) := by decide +kernel
theorem dX1_work_198 : decode cX1_work 198 = .ok (.iload 5, 2) := by decide +kernel
theorem dX1_work_200 : decode cX1_work 200 = .ok (.invokevirtual 66, 3) := by decide +kernel
theorem dX1_work_203 : decode cX1_work 203 = .ok (.goto 39, 3) := by decide +kernel
theorem dX1_work_206 : decode cX1_work 206 = .ok (.aload_n 0, 1) := by decide +kernel
theorem dX1_work_207 : decode cX1_work 207 = .ok (.iload_n 2, 1) := by decide +kernel
theorem dX1_work_208 : decode cX1_work 208 = .ok (.iload_n 3, 1) := by decide +kernel
theorem dX1_work_209 : decode cX1_work 209 = .ok (.iload 4, 2) := by decide +kernel
theorem dX1_work_211 : decode cX1_work 211 = .ok (.iload 5, 2) := by decide +kernel
theorem dX1_work_213 : decode cX1_work 213 = .ok (.invokevirtual 70, 3) := by decide +kernel
theorem dX1_work_216 : decode cX1_work 216 = .ok (.goto 26, 3) := by decide +kernel
theorem dX1_work_219 : decode cX1_work 219 = .ok (.aload_n 0, 1) := by decide +kernel
theorem dX1_work_220 : decode cX1_work 220 = .ok (.iload_n 2, 1) := by decide +kernel
theorem dX1_work_221 : decode cX1_work 221 = .ok (.iload_n 3, 1) := by decide +kernel
theorem dX1_work_222 : decode cX1_work 222 = .ok (.iload 4, 2) := by decide +kernel
theorem dX1_work_224 : decode cX1_work 224 = .ok (.iload 5, 2) := by decide +kernel
theorem dX1_work_226 : decode cX1_work 226 = .ok (.invokevirtual 73, 3) := by decide +kernel
theorem dX1_work_229 : decode cX1_work 229 = .ok (.goto 13, 3) := by decide +kernel
theorem dX1_work_232 : decode cX1_work 232 = .ok (.aload_n 0, 1) := by decide +kernel
theorem dX1_work_233 : decode cX1_work 233 = .ok (.iload_n 2, 1) := by decide +kernel
theorem dX1_work_234 : decode cX1_work 234 = .ok (.iload_n 3, 1) := by decide +kernel
theorem dX1_work_235 : decode cX1_work 235 = .ok (.iload 4, 2) := by decide +kernel
theorem dX1_work_237 : decode cX1_work 237 = .ok (.iload 5, 2) := by decide +kernel
theorem dX1_work_239 : decode cX1_work 239 = .ok (.invokevirtual 76, 3) := by decide +kernel
theorem dX1_work_242 : decode cX1_work 242 = .ok (.iconst 1, 1) := by decide +kernel
theorem dX1_work_243 : decode cX1_work 243 = .ok (.ireturn, 1) := by decide +kernel
set_option maxRecDepth 20000 in
theorem ggX1_negate_X1_isRange : GoodIn wsX1_negate wsX1_isRange := goodIn_r _ [5, 6, 7, 8, 4, 9, 10, 11, 12, 13, 14, 15, 16, 37, 38, 39, 40, 41, 42] (by decide +kernel) (by decide +kernel)
set_option maxRecDepth 20000 in
theorem gX1_negate_X1_isRange : GoodIn wsX1_negate (wsV RX1 48 RX1 yX1_isRange wsX1_isRange) := goodIn_app (goodIn_of _ (by decide +kernel)) ggX1_negate_X1_isRange
set_option maxRecDepth 20000 in
theorem ggX1_negate_X1_tell : GoodIn wsX1_negate wsX1_tell := goodIn_r _ [20, 21, 22, 23, 24, 4, 25, 26, 27, 10, 11, 12, 13, 14, 15, 16, 28, 29, 30, 31, 32, 33, 34, 35, 36, 37, 38, 39, 40, 41, 42] (by decide +kernel) (by decide +kernel)
set_option maxRecDepth 20000 in
theorem gX1_negate_X1_tell : GoodIn wsX1_negate (wsV RX1 52 RX1 yX1_tell wsX1_tell) := goodIn_app (goodIn_of _ (by decide +kernel)) ggX1_negate_X1_tell
theorem dX1_negate_0 : decode cX1_negate 0 = .ok (.aload_n 0, 1) := by decide +kernel
theorem dX1_negate_1 : decode cX1_negate 1 = .ok (.iload_n 1, 1) := by decide +kernel
theorem dX1_negate_2 : decode cX1_negate 2 = .ok (.iload_n 2, 1) := by decide +kernel
theorem dX1_negate_3 : decode cX1_negate 3 = .ok (.invokevirtual 48, 3) := by decide +kernel
theorem dX1_negate_6 : decode cX1_negate 6 = .ok (.ifCond .ne 5, 3) := by decide +kernel
theorem dX1_negate_9 : decode cX1_negate 9 = .ok (.iconst 0, 1) := by decide +kernel
theorem dX1_negate_10 : decode cX1_negate 10 = .ok (.ireturn, 1) := by decide +kernel
theorem dX1_negate_11 : decode cX1_negate 11 = .ok (.aload_n 0, 1) := by decide +kernel
theorem dX1_negate_12 : decode cX1_negate 12 = .ok (.iload_n 2, 1) := by decide +kernel
theorem dX1_negate_13 : decode cX1_negate 13 = .ok (.i2l, 1) := by decide +kernel
theorem dX1_negate_14 : decode cX1_negate 14 = .ok (.lneg, 1) := by decide +kernel
theorem dX1_negate_15 : decode cX1_negate 15 = .ok (.iload_n 1, 1) := by decide +kernel
theorem dX1_negate_16 : decode cX1_negate 16 = .ok (.i2l, 1) := by decide +kernel
theorem dX1_negate_17 : decode cX1_negate 17 = .ok (.lneg, 1) := by decide +kernel
theorem dX1_negate_18 : decode cX1_negate 18 = .ok (.invokevirtual 52, 3) := by decide +kernel
theorem dX1_negate_21 : decode cX1_negate 21 = .ok (.iconst 1, 1) := by decide +kernel
theorem dX1_negate_22 : decode cX1_negate 22 = .ok (.ireturn, 1) := by decide +kernel
theorem dX1_low_0 : decode cX1_low 0 = .ok (.aload_n 0, 1) := by decide +kernel
theorem dX1_low_1 : decode cX1_low 1 = .ok (.getfield 29, 3) := by decide +kernel
theorem dX1_low_4 : decode cX1_low 4 = .ok (.ireturn, 1) := by decide +kernel
theorem dX1_high_0 : decode cX1_high 0 = .ok (.aload_n 0, 1) := by decide +kernel
theorem dX1_high_1 : decode cX1_high 1 = .ok (.getfield 32, 3) := by decide +kernel
theorem dX1_high_4 : decode cX1_high 4 = .ok (.ireturn, 1) := by decide +kernel
set_option maxRecDepth 20000 in
theorem ggX1_addThreshold_X1_isThreshold : GoodIn wsX1_addThreshold wsX1_isThreshold := goodIn_r _ [7, 8, 9, 10, 6, 11, 12, 1, 2, 13, 14, 15, 16, 17, 18] (by decide +kernel) (by decide +kernel)
set_option maxRecDepth 20000 in
theorem gX1_addThreshold_X1_isThreshold : GoodIn wsX1_addThreshold (wsV RX1 79 RX1 yX1_isThreshold wsX1_isThreshold) := goodIn_app (goodIn_of _ (by decide +kernel)) ggX1_addThreshold_X1_isThreshold
theorem dX1_addThreshold_0 : decode cX1_addThreshold 0 = .ok (.aload_n 0, 1) := by decide +kernel
theorem dX1_addThreshold_1 : decode cX1_addThreshold 1 = .ok (.iload_n 1, 1) := by decide +kernel
theorem dX1_addThreshold_2 : decode cX1_addThreshold 2 = .ok (.invokevirtual 79, 3) := by decide +kernel
theorem dX1_addThreshold_5 : decode cX1_addThreshold 5 = .ok (.ifCond .ne 35, 3) := by decide +kernel
theorem dX1_addThreshold_8 : decode cX1_addThreshold 8 = .ok (.aload_n 0, 1) := by decide +kernel
theorem dX1_addThreshold_9 : decode cX1_addThreshold 9 = .ok (.getfield 22, 3) := by decide +kernel
theorem dX1_addThreshold_12 : decode cX1_addThreshold 12 = .ok (.aload_n 0, 1) := by decide +kernel
theorem dX1_addThreshold_13 : decode cX1_addThreshold 13 = .ok (.getfield 13, 3) := by decide +kernel
theorem dX1_addThreshold_16 : decode cX1_addThreshold 16 = .ok (.arraylength, 1) := by decide +kernel
theorem dX1_addThreshold_17 : decode cX1_addThreshold 17 = .ok (.if_icmp .ge 23, 3) := by decide +kernel
theorem dX1_addThreshold_20 : decode cX1_addThreshold 20 = .ok (.aload_n 0, 1) := by decide +kernel
theorem dX1_addThreshold_21 : decode cX1_addThreshold 21 = .ok (.getfield 13, 3) := by decide +kernel
theorem dX1_addThreshold_24 : decode cX1_addThreshold 24 = .ok (.aload_n 0, 1) := by decide +kernel
theorem dX1_addThreshold_25 : decode cX1_addThreshold 25 = .ok (.getfield 22, 3) := by decide +kernel
theorem dX1_addThreshold_28 : decode cX1_addThreshold 28 = .ok (.iload_n 1, 1) := by decide +kernel
theorem dX1_addThreshold_29 : decode cX1_addThreshold 29 = .ok (.iastore, 1) := by decide +kernel
theorem dX1_addThreshold_30 : decode cX1_addThreshold 30 = .ok (.aload_n 0, 1) := by decide +kernel
theorem dX1_addThreshold_31 : decode cX1_addThreshold 31 = .ok (.dup, 1) := by decide +kernel
theorem dX1_addThreshold_32 : decode cX1_addThreshold 32 = .ok (.getfield 22, 3) := by decide +kernel
theorem dX1_addThreshold_35 : decode cX1_addThreshold 35 = .ok (.iconst 1, 1) := by decide +kernel
theorem dX1_addThreshold_36 : decode cX1_addThreshold 36 = .ok (.iadd, 1) := by decide +kernel
theorem dX1_addThreshold_37 : decode cX1_addThreshold 37 = .ok (.putfield 22, 3) := by decide +kernel
theorem dX1_addThreshold_40 : decode cX1_addThreshold 40 = .ok (.return_, 1) := by decide +kernel
set_option maxRecDepth 20000 in
theorem ggX1_isThreshold_X1_down : GoodIn wsX1_isThreshold wsX1_down := goodIn_r _ [5, 6, 7, 8, 9, 10, 11, 12, 13, 14] (by decide +kernel) (by decide +kernel)
set_option maxRecDepth 20000 in
theorem gX1_isThreshold_X1_down : GoodIn wsX1_isThreshold (wsV RX1 83 RX1 yX1_down wsX1_down) := goodIn_app (goodIn_of _ (by decide +kernel)) ggX1_isThreshold_X1_down
theorem dX1_isThreshold_0 : decode cX1_isThreshold 0 = .ok (.aload_n 0, 1) := by decide +kernel
theorem dX1_isThreshold_1 : decode cX1_isThreshold 1 = .ok (.iload_n 1, 1) := by decide +kernel
theorem dX1_isThreshold_2 : decode cX1_isThreshold 2 = .ok (.invokevirtual 83, 3) := by decide +kernel
theorem dX1_isThreshold_5 : decode cX1_isThreshold 5 = .ok (.iload_n 1, 1) := by decide +kernel
theorem dX1_isThreshold_6 : decode cX1_isThreshold 6 = .ok (.if_icmp .ne 7, 3) := by decide +kernel
theorem dX1_isThreshold_9 : decode cX1_isThreshold 9 = .ok (.iconst 1, 1) := by decide +kernel
theorem dX1_isThreshold_10 : decode cX1_isThreshold 10 = .ok (.goto 4, 3) := by decide +kernel
theorem dX1_isThreshold_13 : decode cX1_isThreshold 13 = .ok (.iconst 0, 1) := by decide +kernel
theorem dX1_isThreshold_14 : decode cX1_isThreshold 14 = .ok (.ireturn, 1) := by decide +kernel
set_option maxRecDepth 20000 in
theorem ggX1_isRange_X1_isThreshold : GoodIn wsX1_isRange wsX1_isThreshold := goodIn_r _ [5, 6, 7, 8, 4, 9, 10, 11, 12, 13, 14, 15, 16, 17, 18] (by decide +kernel) (by decide +kernel)
set_option maxRecDepth 20000 in
theorem gX1_isRange_X1_isThreshold : GoodIn wsX1_isRange (wsV RX1 79 RX1 yX1_isThreshold wsX1_isThreshold) := goodIn_app (goodIn_of _ (by decide +kernel)) ggX1_isRange_X1_isThreshold
theorem dX1_isRange_0 : decode cX1_isRange 0 = .ok (.iload_n 1, 1) := by decide +kernel
theorem dX1_isRange_1 : decode cX1_isRange 1 = .ok (.iload_n 2, 1) := by decide +kernel
theorem dX1_isRange_2 : decode cX1_isRange 2 = .ok (.if_icmp .gt 23, 3) := by decide +kernel
theorem dX1_isRange_5 : decode cX1_isRange 5 = .ok (.aload_n 0, 1) := by decide +kernel
theorem dX1_isRange_6 : decode cX1_isRange 6 = .ok (.iload_n 1, 1) := by decide +kernel
theorem dX1_isRange_7 : decode cX1_isRange 7 = .ok (.invokevirtual 79, 3) := by decide +kernel
theorem dX1_isRange_10 : decode cX1_isRange 10 = .ok (.ifCond .eq 15, 3) := by decide +kernel
theorem dX1_isRange_13 : decode cX1_isRange 13 = .ok (.aload_n 0, 1) := by decide +kernel
theorem dX1_isRange_14 : decode cX1_isRange 14 = .ok (.iload_n 2, 1) := by decide +kernel
theorem dX1_isRange_15 : decode cX1_isRange 15 = .ok (.invokevirtual 79, 3) := by decide +kernel
theorem dX1_isRange_18 : decode cX1_isRange 18 = .ok (.ifCond .eq 7, 3) := by decide +kernel
theorem dX1_isRange_21 : decode cX1_isRange 21 = .ok (.iconst 1, 1) := by decide +kernel
theorem dX1_isRange_22 : decode cX1_isRange 22 = .ok (.goto 4, 3) := by decide +kernel
theorem dX1_isRange_25 : decode cX1_isRange 25 = .ok (.iconst 0, 1) := by decide +kernel
theorem dX1_isRange_26 : decode cX1_isRange 26 = .ok (.ireturn, 1) := by decide +kernel
set_option maxRecDepth 20000 in
theorem ggX1_tell_X1_isInt : GoodIn wsX1_tell wsX1_isInt := goodIn_r _ [6, 7, 8] (by decide +kernel) (by decide +kernel)
set_option maxRecDepth 20000 in
theorem gX1_tell_X1_isInt : GoodIn wsX1_tell (va_wsS RX1 87 yX1_isInt wsX1_isInt) := goodIn_app (goodIn_of _ (by decide +kernel)) ggX1_tell_X1_isInt
set_option maxRecDepth 20000 in
theorem ggX1_tell_X1_down : GoodIn wsX1_tell wsX1_down := goodIn_r _ [12, 13, 14, 15, 25, 26, 27, 28, 29, 30] (by decide +kernel) (by decide +kernel)
set_option maxRecDepth 20000 in
theorem gX1_tell_X1_down : GoodIn wsX1_tell (wsV RX1 83 RX1 yX1_down wsX1_down) := goodIn_app (goodIn_of _ (by decide +kernel)) ggX1_tell_X1_down
set_option maxRecDepth 20000 in
theorem ggX1_tell_X1_up : GoodIn wsX1_tell wsX1_up := goodIn_r _ [19, 20, 14, 15, 25, 26, 27, 28, 29, 30] (by decide +kernel) (by decide +kernel)
set_option maxRecDepth 20000 in
theorem gX1_tell_X1_up : GoodIn wsX1_tell (wsV RX1 91 RX1 yX1_up wsX1_up) := goodIn_app (goodIn_of _ (by decide +kernel)) ggX1_tell_X1_up
set_option maxRecDepth 20000 in
theorem ggX1_tell_X1_tellAllInts : GoodIn wsX1_tell wsX1_tellAllInts := goodIn_r _ [24, 13, 1, 20, 2, 25, 26, 27, 28, 29, 30] (by decide +kernel) (by decide +kernel)
set_option maxRecDepth 20000 in
theorem gX1_tell_X1_tellAllInts : GoodIn wsX1_tell (wsV RX1 94 RX1 yX1_tellAllInts wsX1_tellAllInts) := goodIn_app (goodIn_of _ (by decide +kernel)) ggX1_tell_X1_tellAllInts
theorem dX1_tell_0 : decode cX1_tell 0 = .ok (.lload_n 1, 1) := by decide +kernel
theorem dX1_tell_1 : decode cX1_tell 1 = .ok (.invokestatic 87, 3) := by decide +kernel
theorem dX1_tell_4 : decode cX1_tell 4 = .ok (.ifCond .eq 33, 3) := by decide +kernel
theorem dX1_tell_7 : decode cX1_tell 7 = .ok (.lload_n 3, 1) := by decide +kernel
theorem dX1_tell_8 : decode cX1_tell 8 = .ok (.invokestatic 87, 3) := by decide +kernel
theorem dX1_tell_11 : decode cX1_tell 11 = .ok (.ifCond .eq 26, 3) := by decide +kernel
theorem dX1_tell_14 : decode cX1_tell 14 = .ok (.aload_n 0, 1) := by decide +kernel
theorem dX1_tell_15 : decode cX1_tell 15 = .ok (.aload_n 0, 1) := by decide +kernel
theorem dX1_tell_16 : decode cX1_tell 16 = .ok (.lload_n 1, 1) := by decide +kernel
theorem dX1_tell_17 : decode cX1_tell 17 = .ok (.l2i, 1) := by decide +kernel
theorem dX1_tell_18 : decode cX1_tell 18 = .ok (.invokevirtual 83, 3) := by decide +kernel
theorem dX1_tell_21 : decode cX1_tell 21 = .ok (.putfield 29, 3) := by decide +kernel
theorem dX1_tell_24 : decode cX1_tell 24 = .ok (.aload_n 0, 1) := by decide +kernel
theorem dX1_tell_25 : decode cX1_tell 25 = .ok (.aload_n 0, 1) := by decide +kernel
theorem dX1_tell_26 : decode cX1_tell 26 = .ok (.lload_n 3, 1) := by decide +kernel
theorem dX1_tell_27 : decode cX1_tell 27 = .ok (.l2i, 1) := by decide +kernel
theorem dX1_tell_28 : decode cX1_tell 28 = .ok (.invokevirtual 91, 3) := by decide +kernel
theorem dX1_tell_31 : decode cX1_tell 31 = .ok (.putfield 32, 3) := by decide +kernel
theorem dX1_tell_34 : decode cX1_tell 34 = .ok (.goto 7, 3) := by decide +kernel
theorem dX1_tell_37 : decode cX1_tell 37 = .ok (.aload_n 0, 1) := by decide +kernel
theorem dX1_tell_38 : decode cX1_tell 38 = .ok (.invokevirtual 94, 3) := by decide +kernel
theorem dX1_tell_41 : decode cX1_tell 41 = .ok (.return_, 1) := by decide +kernel
theorem dX1_tellAllInts_0 : decode cX1_tellAllInts 0 = .ok (.aload_n 0, 1) := by decide +kernel
theorem dX1_tellAllInts_1 : decode cX1_tellAllInts 1 = .ok (.ldc 42, 2) := by decide +kernel
theorem dX1_tellAllInts_3 : decode cX1_tellAllInts 3 = .ok (.putfield 29, 3) := by decide +kernel
theorem dX1_tellAllInts_6 : decode cX1_tellAllInts 6 = .ok (.aload_n 0, 1) := by decide +kernel
theorem dX1_tellAllInts_7 : decode cX1_tellAllInts 7 = .ok (.ldc 47, 2) := by decide +kernel
theorem dX1_tellAllInts_9 : decode cX1_tellAllInts 9 = .ok (.putfield 32, 3) := by decide +kernel
theorem dX1_tellAllInts_12 : decode cX1_tellAllInts 12 = .ok (.return_, 1) := by decide +kernel
theorem dX1_isInt_0 : decode cX1_isInt 0 = .ok (.lload_n 0, 1) := by decide +kernel
theorem dX1_isInt_1 : decode cX1_isInt 1 = .ok (.ldc2_w 97, 3) := by decide +kernel
theorem dX1_isInt_4 : decode cX1_isInt 4 = .ok (.lcmp, 1) := by decide +kernel
theorem dX1_isInt_5 : decode cX1_isInt 5 = .ok (.ifCond .lt 15, 3) := by decide +kernel
theorem dX1_isInt_8 : decode cX1_isInt 8 = .ok (.lload_n 0, 1) := by decide +kernel
theorem dX1_isInt_9 : decode cX1_isInt 9 = .ok (.ldc2_w 99, 3) := by decide +kernel
theorem dX1_isInt_12 : decode cX1_isInt 12 = .ok (.lcmp, 1) := by decide +kernel
theorem dX1_isInt_13 : decode cX1_isInt 13 = .ok (.ifCond .gt 7, 3) := by decide +kernel
theorem dX1_isInt_16 : decode cX1_isInt 16 = .ok (.iconst 1, 1) := by decide +kernel
theorem dX1_isInt_17 : decode cX1_isInt 17 = .ok (.goto 4, 3) := by decide +kernel
theorem dX1_isInt_20 : decode cX1_isInt 20 = .ok (.iconst 0, 1) := by decide +kernel
theorem dX1_isInt_21 : decode cX1_isInt 21 = .ok (.ireturn, 1) := by decide +kernel
set_option maxRecDepth 20000 in
theorem ggX1_multiply_X0_empty : GoodIn wsX1_multiply wsX0_empty := goodIn_r _ [5, 6, 7, 8, 9, 54, 55] (by decide +kernel) (by decide +kernel)
set_option maxRecDepth 20000 in
theorem gX1_multiply_X0_empty_n101 : GoodIn wsX1_multiply (wsX0_empty) := ggX1_multiply_X0_empty
set_option maxRecDepth 20000 in
theorem ggX1_multiply_X0_take : GoodIn wsX1_multiply wsX0_take := goodIn_r _ [12, 7, 13, 14, 15, 16, 9, 17, 18, 19, 54, 55] (by decide +kernel) (by decide +kernel)
set_option maxRecDepth 20000 in
theorem gX1_multiply_X0_take_n104 : GoodIn wsX1_multiply (wsX0_take) := ggX1_multiply_X0_take
set_option maxRecDepth 20000 in
theorem ggX1_multiply_X1_tell : GoodIn wsX1_multiply wsX1_tell := goodIn_r _ [24, 25, 26, 27, 28, 23, 29, 30, 31, 32, 33, 34, 35, 36, 37, 38, 39, 40, 41, 42, 43, 44, 45, 46, 47, 48, 49, 50, 51, 52, 53] (by decide +kernel) (by decide +kernel)
set_option maxRecDepth 20000 in
theorem gX1_multiply_X1_tell : GoodIn wsX1_multiply (wsV RX1 52 RX1 yX1_tell wsX1_tell) := goodIn_app (goodIn_of _ (by decide +kernel)) ggX1_multiply_X1_tell
theorem dX1_multiply_0 : decode cX1_multiply 0 = .ok (.aload_n 0, 1) := by decide +kernel
theorem dX1_multiply_1 : decode cX1_multiply 1 = .ok (.getfield 38, 3) := by decide +kernel
theorem dX1_multiply_4 : decode cX1_multiply 4 = .ok (.invokevirtual 101, 3) := by decide +kernel
theorem dX1_multiply_7 : decode cX1_multiply 7 = .ok (.aload_n 0, 1) := by decide +kernel
theorem dX1_multiply_8 : decode cX1_multiply 8 = .ok (.getfield 38, 3) := by decide +kernel
theorem dX1_multiply_11 : decode cX1_multiply 11 = .ok (.lload_n 1, 1) := by decide +kernel
theorem dX1_multiply_12 : decode cX1_multiply 12 = .ok (.lload 5, 2) := by decide +kernel
theorem dX1_multiply_14 : decode cX1_multiply 14 = .ok (.lmul, 1) := by decide +kernel
theorem dX1_multiply_15 : decode cX1_multiply 15 = .ok (.invokevirtual 104, 3) := by decide +kernel
theorem dX1_multiply_18 : decode cX1_multiply 18 = .ok (.aload_n 0, 1) := by decide +kernel
theorem dX1_multiply_19 : decode cX1_multiply 19 = .ok (.getfield 38, 3) := by decide +kernel
theorem dX1_multiply_22 : decode cX1_multiply 22 = .ok (.lload_n 1, 1) := by decide +kernel
theorem dX1_multiply_23 : decode cX1_multiply 23 = .ok (.lload 7, 2) := by decide +kernel
theorem dX1_multiply_25 : decode cX1_multiply 25 = .ok (.lmul, 1) := by decide +kernel
theorem dX1_multiply_26 : decode cX1_multiply 26 = .ok (.invokevirtual 104, 3) := by decide +kernel
theorem dX1_multiply_29 : decode cX1_multiply 29 = .ok (.aload_n 0, 1) := by decide +kernel
theorem dX1_multiply_30 : decode cX1_multiply 30 = .ok (.getfield 38, 3) := by decide +kernel
theorem dX1_multiply_33 : decode cX1_multiply 33 = .ok (.lload_n 3, 1) := by decide +kernel
theorem dX1_multiply_34 : decode cX1_multiply 34 = .ok (.lload 5, 2) := by decide +kernel
theorem dX1_multiply_36 : decode cX1_multiply 36 = .ok (.lmul, 1) := by decide +kernel
theorem dX1_multiply_37 : decode cX1_multiply 37 = .ok (.invokevirtual 104, 3) := by decide +kernel
theorem dX1_multiply_40 : decode cX1_multiply 40 = .ok (.aload_n 0, 1) := by decide +kernel
theorem dX1_multiply_41 : decode cX1_multiply 41 = .ok (.getfield 38, 3) := by decide +kernel
theorem dX1_multiply_44 : decode cX1_multiply 44 = .ok (.lload_n 3, 1) := by decide +kernel
theorem dX1_multiply_45 : decode cX1_multiply 45 = .ok (.lload 7, 2) := by decide +kernel
theorem dX1_multiply_47 : decode cX1_multiply 47 = .ok (.lmul, 1) := by decide +kernel
theorem dX1_multiply_48 : decode cX1_multiply 48 = .ok (.invokevirtual 104, 3) := by decide +kernel
theorem dX1_multiply_51 : decode cX1_multiply 51 = .ok (.aload_n 0, 1) := by decide +kernel
theorem dX1_multiply_52 : decode cX1_multiply 52 = .ok (.aload_n 0, 1) := by decide +kernel
theorem dX1_multiply_53 : decode cX1_multiply 53 = .ok (.getfield 38, 3) := by decide +kernel
theorem dX1_multiply_56 : decode cX1_multiply 56 = .ok (.getfield 108, 3) := by decide +kernel
theorem dX1_multiply_59 : decode cX1_multiply 59 = .ok (.aload_n 0, 1) := by decide +kernel
theorem dX1_multiply_60 : decode cX1_multiply 60 = .ok (.getfield 38, 3) := by decide +kernel
theorem dX1_multiply_63 : decode cX1_multiply 63 = .ok (.getfield 112, 3) := by decide +kernel
theorem dX1_multiply_66 : decode cX1_multiply 66 = .ok (.invokevirtual 52, 3) := by decide +kernel
theorem dX1_multiply_69 : decode cX1_multiply 69 = .ok (.return_, 1) := by decide +kernel
set_option maxRecDepth 20000 in
theorem ggX1_divide_X0_empty : GoodIn wsX1_divide wsX0_empty := goodIn_r _ [6, 7, 8, 9, 10, 59, 60] (by decide +kernel) (by decide +kernel)
set_option maxRecDepth 20000 in
theorem gX1_divide_X0_empty_n101 : GoodIn wsX1_divide (wsX0_empty) := ggX1_divide_X0_empty
set_option maxRecDepth 20000 in
theorem ggX1_divide_X1_takeQuotients : GoodIn wsX1_divide wsX1_takeQuotients := goodIn_r _ [15, 1, 16, 4, 17, 18, 8, 19, 20, 21, 22, 10, 23, 24, 25, 53, 54, 55, 56, 57, 58, 59, 60] (by decide +kernel) (by decide +kernel)
set_option maxRecDepth 20000 in
theorem gX1_divide_X1_takeQuotients : GoodIn wsX1_divide (wsV RX1 115 RX1 yX1_takeQuotients wsX1_takeQuotients) := goodIn_app (goodIn_of _ (by decide +kernel)) ggX1_divide_X1_takeQuotients
set_option maxRecDepth 20000 in
theorem ggX1_divide_X1_tell : GoodIn wsX1_divide wsX1_tell := goodIn_r _ [29, 30, 31, 32, 33, 14, 34, 35, 36, 37, 38, 39, 40, 41, 42, 43, 44, 45, 46, 47, 48, 49, 50, 51, 52, 53, 54, 55, 56, 57, 58] (by decide +kernel) (by decide +kernel)
set_option maxRecDepth 20000 in
theorem gX1_divide_X1_tell : GoodIn wsX1_divide (wsV RX1 52 RX1 yX1_tell wsX1_tell) := goodIn_app (goodIn_of _ (by decide +kernel)) ggX1_divide_X1_tell
theorem dX1_divide_0 : decode cX1_divide 0 = .ok (.aload_n 0, 1) := by decide +kernel
theorem dX1_divide_1 : decode cX1_divide 1 = .ok (.getfield 38, 3) := by decide +kernel
theorem dX1_divide_4 : decode cX1_divide 4 = .ok (.invokevirtual 101, 3) := by decide +kernel
theorem dX1_divide_7 : decode cX1_divide 7 = .ok (.aload_n 0, 1) := by decide +kernel
theorem dX1_divide_8 : decode cX1_divide 8 = .ok (.lload_n 1, 1) := by decide +kernel
theorem dX1_divide_9 : decode cX1_divide 9 = .ok (.lload_n 3, 1) := by decide +kernel
theorem dX1_divide_10 : decode cX1_divide 10 = .ok (.lload 5, 2) := by decide +kernel
theorem dX1_divide_12 : decode cX1_divide 12 = .ok (.invokevirtual 115, 3) := by decide +kernel
theorem dX1_divide_15 : decode cX1_divide 15 = .ok (.aload_n 0, 1) := by decide +kernel
theorem dX1_divide_16 : decode cX1_divide 16 = .ok (.lload_n 1, 1) := by decide +kernel
theorem dX1_divide_17 : decode cX1_divide 17 = .ok (.lload_n 3, 1) := by decide +kernel
theorem dX1_divide_18 : decode cX1_divide 18 = .ok (.lload 7, 2) := by decide +kernel
theorem dX1_divide_20 : decode cX1_divide 20 = .ok (.invokevirtual 115, 3) := by decide +kernel
theorem dX1_divide_23 : decode cX1_divide 23 = .ok (.lload 5, 2) := by decide +kernel
theorem dX1_divide_25 : decode cX1_divide 25 = .ok (.ldc2_w 119, 3) := by decide +kernel
theorem dX1_divide_28 : decode cX1_divide 28 = .ok (.lcmp, 1) := by decide +kernel
theorem dX1_divide_29 : decode cX1_divide 29 = .ok (.ifCond .gt 21, 3) := by decide +kernel
theorem dX1_divide_32 : decode cX1_divide 32 = .ok (.lload 7, 2) := by decide +kernel
theorem dX1_divide_34 : decode cX1_divide 34 = .ok (.ldc2_w 119, 3) := by decide +kernel
theorem dX1_divide_37 : decode cX1_divide 37 = .ok (.lcmp, 1) := by decide +kernel
theorem dX1_divide_38 : decode cX1_divide 38 = .ok (.ifCond .lt 12, 3) := by decide +kernel
theorem dX1_divide_41 : decode cX1_divide 41 = .ok (.aload_n 0, 1) := by decide +kernel
theorem dX1_divide_42 : decode cX1_divide 42 = .ok (.lload_n 1, 1) := by decide +kernel
theorem dX1_divide_43 : decode cX1_divide 43 = .ok (.lload_n 3, 1) := by decide +kernel
theorem dX1_divide_44 : decode cX1_divide 44 = .ok (.ldc2_w 119, 3) := by decide +kernel
theorem dX1_divide_47 : decode cX1_divide 47 = .ok (.invokevirtual 115, 3) := by decide +kernel
theorem dX1_divide_50 : decode cX1_divide 50 = .ok (.lload 5, 2) := by decide +kernel
theorem dX1_divide_52 : decode cX1_divide 52 = .ok (.lconst 1, 1) := by decide +kernel
theorem dX1_divide_53 : decode cX1_divide 53 = .ok (.lcmp, 1) := by decide +kernel
theorem dX1_divide_54 : decode cX1_divide 54 = .ok (.ifCond .gt 17, 3) := by decide +kernel
theorem dX1_divide_57 : decode cX1_divide 57 = .ok (.lload 7, 2) := by decide +kernel
theorem dX1_divide_59 : decode cX1_divide 59 = .ok (.lconst 1, 1) := by decide +kernel
theorem dX1_divide_60 : decode cX1_divide 60 = .ok (.lcmp, 1) := by decide +kernel
theorem dX1_divide_61 : decode cX1_divide 61 = .ok (.ifCond .lt 10, 3) := by decide +kernel
theorem dX1_divide_64 : decode cX1_divide 64 = .ok (.aload_n 0, 1) := by decide +kernel
theorem dX1_divide_65 : decode cX1_divide 65 = .ok (.lload_n 1, 1) := by decide +kernel
theorem dX1_divide_66 : decode cX1_divide 66 = .ok (.lload_n 3, 1) := by decide +kernel
theorem dX1_divide_67 : decode cX1_divide 67 = .ok (.lconst 1, 1) := by decide +kernel
theorem dX1_divide_68 : decode cX1_divide 68 = .ok (.invokevirtual 115, 3) := by decide +kernel
theorem dX1_divide_71 : decode cX1_divide 71 = .ok (.aload_n 0, 1) := by decide +kernel
theorem dX1_divide_72 : decode cX1_divide 72 = .ok (.aload_n 0, 1) := by decide +kernel
theorem dX1_divide_73 : decode cX1_divide 73 = .ok (.getfield 38, 3) := by decide +kernel
theorem dX1_divide_76 : decode cX1_divide 76 = .ok (.getfield 108, 3) := by decide +kernel
theorem dX1_divide_79 : decode cX1_divide 79 = .ok (.aload_n 0, 1) := by decide +kernel
theorem dX1_divide_80 : decode cX1_divide 80 = .ok (.getfield 38, 3) := by decide +kernel
theorem dX1_divide_83 : decode cX1_divide 83 = .ok (.getfield 112, 3) := by decide +kernel
theorem dX1_divide_86 : decode cX1_divide 86 = .ok (.invokevirtual 52, 3) := by decide +kernel
theorem dX1_divide_89 : decode cX1_divide 89 = .ok (.return_, 1) := by decide +kernel
set_option maxRecDepth 20000 in
theorem ggX1_takeQuotients_X0_take : GoodIn wsX1_takeQuotients wsX0_take := goodIn_r _ [5, 6, 7, 8, 9, 10, 11, 12, 13, 14, 21, 22] (by decide +kernel) (by decide +kernel)
set_option maxRecDepth 20000 in
theorem gX1_takeQuotients_X0_take_n104 : GoodIn wsX1_takeQuotients (wsX0_take) := ggX1_takeQuotients_X0_take
theorem dX1_takeQuotients_0 : decode cX1_takeQuotients 0 = .ok (.lload 5, 2) := by decide +kernel
theorem dX1_takeQuotients_2 : decode cX1_takeQuotients 2 = .ok (.lconst 0, 1) := by decide +kernel
theorem dX1_takeQuotients_3 : decode cX1_takeQuotients 3 = .ok (.lcmp, 1) := by decide +kernel
theorem dX1_takeQuotients_4 : decode cX1_takeQuotients 4 = .ok (.ifCond .eq 25, 3) := by decide +kernel
theorem dX1_takeQuotients_7 : decode cX1_takeQuotients 7 = .ok (.aload_n 0, 1) := by decide +kernel
theorem dX1_takeQuotients_8 : decode cX1_takeQuotients 8 = .ok (.getfield 38, 3) := by decide +kernel
theorem dX1_takeQuotients_11 : decode cX1_takeQuotients 11 = .ok (.lload_n 1, 1) := by decide +kernel
theorem dX1_takeQuotients_12 : decode cX1_takeQuotients 12 = .ok (.lload 5, 2) := by decide +kernel
theorem dX1_takeQuotients_14 : decode cX1_takeQuotients 14 = .ok (.ldiv, 1) := by decide +kernel
theorem dX1_takeQuotients_15 : decode cX1_takeQuotients 15 = .ok (.invokevirtual 104, 3) := by decide +kernel
theorem dX1_takeQuotients_18 : decode cX1_takeQuotients 18 = .ok (.aload_n 0, 1) := by decide +kernel
theorem dX1_takeQuotients_19 : decode cX1_takeQuotients 19 = .ok (.getfield 38, 3) := by decide +kernel
theorem dX1_takeQuotients_22 : decode cX1_takeQuotients 22 = .ok (.lload_n 3, 1) := by decide +kernel
theorem dX1_takeQuotients_23 : decode cX1_takeQuotients 23 = .ok (.lload 5, 2) := by decide +kernel
theorem dX1_takeQuotients_25 : decode cX1_takeQuotients 25 = .ok (.ldiv, 1) := by decide +kernel
theorem dX1_takeQuotients_26 : decode cX1_takeQuotients 26 = .ok (.invokevirtual 104, 3) := by decide +kernel
theorem dX1_takeQuotients_29 : decode cX1_takeQuotients 29 = .ok (.return_, 1) := by decide +kernel
set_option maxRecDepth 20000 in
theorem ggX1_rest_X1_tell : GoodIn wsX1_rest wsX1_tell := goodIn_r _ [15, 16, 17, 18, 19, 14, 20, 21, 22, 23, 24, 25, 26, 27, 28, 29, 30, 31, 32, 33, 34, 35, 36, 37, 38, 39, 40, 41, 42, 43, 44] (by decide +kernel) (by decide +kernel)
set_option maxRecDepth 20000 in
theorem gX1_rest_X1_tell : GoodIn wsX1_rest (wsV RX1 52 RX1 yX1_tell wsX1_tell) := goodIn_app (goodIn_of _ (by decide +kernel)) ggX1_rest_X1_tell
theorem dX1_rest_0 : decode cX1_rest 0 = .ok (.lload 5, 2) := by decide +kernel
theorem dX1_rest_2 : decode cX1_rest 2 = .ok (.invokestatic 121, 3) := by decide +kernel
theorem dX1_rest_5 : decode cX1_rest 5 = .ok (.lload 7, 2) := by decide +kernel
theorem dX1_rest_7 : decode cX1_rest 7 = .ok (.invokestatic 121, 3) := by decide +kernel
theorem dX1_rest_10 : decode cX1_rest 10 = .ok (.invokestatic 127, 3) := by decide +kernel
theorem dX1_rest_13 : decode cX1_rest 13 = .ok (.lconst 1, 1) := by decide +kernel
theorem dX1_rest_14 : decode cX1_rest 14 = .ok (.lsub, 1) := by decide +kernel
theorem dX1_rest_15 : decode cX1_rest 15 = .ok (.lstore 9, 2) := by decide +kernel
theorem dX1_rest_17 : decode cX1_rest 17 = .ok (.lload_n 1, 1) := by decide +kernel
theorem dX1_rest_18 : decode cX1_rest 18 = .ok (.lconst 0, 1) := by decide +kernel
theorem dX1_rest_19 : decode cX1_rest 19 = .ok (.lcmp, 1) := by decide +kernel
theorem dX1_rest_20 : decode cX1_rest 20 = .ok (.ifCond .lt 17, 3) := by decide +kernel
theorem dX1_rest_23 : decode cX1_rest 23 = .ok (.aload_n 0, 1) := by decide +kernel
theorem dX1_rest_24 : decode cX1_rest 24 = .ok (.lconst 0, 1) := by decide +kernel
theorem dX1_rest_25 : decode cX1_rest 25 = .ok (.lload_n 3, 1) := by decide +kernel
theorem dX1_rest_26 : decode cX1_rest 26 = .ok (.lload 9, 2) := by decide +kernel
theorem dX1_rest_28 : decode cX1_rest 28 = .ok (.invokestatic 131, 3) := by decide +kernel
theorem dX1_rest_31 : decode cX1_rest 31 = .ok (.invokevirtual 52, 3) := by decide +kernel
theorem dX1_rest_34 : decode cX1_rest 34 = .ok (.goto 41, 3) := by decide +kernel
theorem dX1_rest_37 : decode cX1_rest 37 = .ok (.lload_n 3, 1) := by decide +kernel
theorem dX1_rest_38 : decode cX1_rest 38 = .ok (.lconst 0, 1) := by decide +kernel
theorem dX1_rest_39 : decode cX1_rest 39 = .ok (.lcmp, 1) := by decide +kernel
theorem dX1_rest_40 : decode cX1_rest 40 = .ok (.ifCond .gt 18, 3) := by decide +kernel
theorem dX1_rest_43 : decode cX1_rest 43 = .ok (.aload_n 0, 1) := by decide +kernel
theorem dX1_rest_44 : decode cX1_rest 44 = .ok (.lload_n 1, 1) := by decide +kernel
theorem dX1_rest_45 : decode cX1_rest 45 = .ok (.lload 9, 2) := by decide +kernel
theorem dX1_rest_47 : decode cX1_rest 47 = .ok (.lneg, 1) := by decide +kernel
theorem dX1_rest_48 : decode cX1_rest 48 = .ok (.invokestatic 127, 3) := by decide +kernel
theorem dX1_rest_51 : decode cX1_rest 51 = .ok (.lconst 0, 1) := by decide +kernel
theorem dX1_rest_52 : decode cX1_rest 52 = .ok (.invokevirtual 52, 3) := by decide +kernel
theorem dX1_rest_55 : decode cX1_rest 55 = .ok (.goto 20, 3) := by decide +kernel
theorem dX1_rest_58 : decode cX1_rest 58 = .ok (.aload_n 0, 1) := by decide +kernel
theorem dX1_rest_59 : decode cX1_rest 59 = .ok (.lload_n 1, 1) := by decide +kernel
theorem dX1_rest_60 : decode cX1_rest 60 = .ok (.lload 9, 2) := by decide +kernel
theorem dX1_rest_62 : decode cX1_rest 62 = .ok (.lneg, 1) := by decide +kernel
theorem dX1_rest_63 : decode cX1_rest 63 = .ok (.invokestatic 127, 3) := by decide +kernel
theorem dX1_rest_66 : decode cX1_rest 66 = .ok (.lload_n 3, 1) := by decide +kernel
theorem dX1_rest_67 : decode cX1_rest 67 = .ok (.lload 9, 2) := by decide +kernel
theorem dX1_rest_69 : decode cX1_rest 69 = .ok (.invokestatic 131, 3) := by decide +kernel
theorem dX1_rest_72 : decode cX1_rest 72 = .ok (.invokevirtual 52, 3) := by decide +kernel
theorem dX1_rest_75 : decode cX1_rest 75 = .ok (.return_, 1) := by decide +kernel
set_option maxRecDepth 20000 in
theorem ggX1_and_X1_tellAllInts : GoodIn wsX1_and wsX1_tellAllInts := goodIn_r _ [9, 10, 11, 12, 13, 33, 34, 35, 36, 37, 38] (by decide +kernel) (by decide +kernel)
set_option maxRecDepth 20000 in
theorem gX1_and_X1_tellAllInts : GoodIn wsX1_and (wsV RX1 94 RX1 yX1_tellAllInts wsX1_tellAllInts) := goodIn_app (goodIn_of _ (by decide +kernel)) ggX1_and_X1_tellAllInts
set_option maxRecDepth 20000 in
theorem ggX1_and_X1_tell : GoodIn wsX1_and wsX1_tell := goodIn_r _ [17, 11, 13, 18, 19, 8, 20, 21, 22, 23, 24, 25, 26, 10, 27, 28, 29, 30, 31, 32, 12, 5, 6, 7, 9, 33, 34, 35, 36, 37, 38] (by decide +kernel) (by decide +kernel)
set_option maxRecDepth 20000 in
theorem gX1_and_X1_tell : GoodIn wsX1_and (wsV RX1 52 RX1 yX1_tell wsX1_tell) := goodIn_app (goodIn_of _ (by decide +kernel)) ggX1_and_X1_tell
theorem dX1_and_0 : decode cX1_and 0 = .ok (.iload_n 1, 1) := by decide +kernel
theorem dX1_and_1 : decode cX1_and 1 = .ok (.ifCond .ge 14, 3) := by decide +kernel
theorem dX1_and_4 : decode cX1_and 4 = .ok (.iload_n 3, 1) := by decide +kernel
theorem dX1_and_5 : decode cX1_and 5 = .ok (.ifCond .ge 10, 3) := by decide +kernel
theorem dX1_and_8 : decode cX1_and 8 = .ok (.aload_n 0, 1) := by decide +kernel
theorem dX1_and_9 : decode cX1_and 9 = .ok (.invokevirtual 94, 3) := by decide +kernel
theorem dX1_and_12 : decode cX1_and 12 = .ok (.goto 44, 3) := by decide +kernel
theorem dX1_and_15 : decode cX1_and 15 = .ok (.iload_n 1, 1) := by decide +kernel
theorem dX1_and_16 : decode cX1_and 16 = .ok (.ifCond .ge 14, 3) := by decide +kernel
theorem dX1_and_19 : decode cX1_and 19 = .ok (.aload_n 0, 1) := by decide +kernel
theorem dX1_and_20 : decode cX1_and 20 = .ok (.lconst 0, 1) := by decide +kernel
theorem dX1_and_21 : decode cX1_and 21 = .ok (.iload 4, 2) := by decide +kernel
theorem dX1_and_23 : decode cX1_and 23 = .ok (.i2l, 1) := by decide +kernel
theorem dX1_and_24 : decode cX1_and 24 = .ok (.invokevirtual 52, 3) := by decide +kernel
theorem dX1_and_27 : decode cX1_and 27 = .ok (.goto 29, 3) := by decide +kernel
theorem dX1_and_30 : decode cX1_and 30 = .ok (.iload_n 3, 1) := by decide +kernel
theorem dX1_and_31 : decode cX1_and 31 = .ok (.ifCond .ge 13, 3) := by decide +kernel
theorem dX1_and_34 : decode cX1_and 34 = .ok (.aload_n 0, 1) := by decide +kernel
theorem dX1_and_35 : decode cX1_and 35 = .ok (.lconst 0, 1) := by decide +kernel
theorem dX1_and_36 : decode cX1_and 36 = .ok (.iload_n 2, 1) := by decide +kernel
theorem dX1_and_37 : decode cX1_and 37 = .ok (.i2l, 1) := by decide +kernel
theorem dX1_and_38 : decode cX1_and 38 = .ok (.invokevirtual 52, 3) := by decide +kernel
theorem dX1_and_41 : decode cX1_and 41 = .ok (.goto 15, 3) := by decide +kernel
theorem dX1_and_44 : decode cX1_and 44 = .ok (.aload_n 0, 1) := by decide +kernel
theorem dX1_and_45 : decode cX1_and 45 = .ok (.lconst 0, 1) := by decide +kernel
theorem dX1_and_46 : decode cX1_and 46 = .ok (.iload_n 2, 1) := by decide +kernel
theorem dX1_and_47 : decode cX1_and 47 = .ok (.iload 4, 2) := by decide +kernel
theorem dX1_and_49 : decode cX1_and 49 = .ok (.invokestatic 134, 3) := by decide +kernel
theorem dX1_and_52 : decode cX1_and 52 = .ok (.i2l, 1) := by decide +kernel
theorem dX1_and_53 : decode cX1_and 53 = .ok (.invokevirtual 52, 3) := by decide +kernel
theorem dX1_and_56 : decode cX1_and 56 = .ok (.return_, 1) := by decide +kernel
set_option maxRecDepth 20000 in
theorem ggX1_orOrXor_X1_tellAllInts : GoodIn wsX1_orOrXor wsX1_tellAllInts := goodIn_r _ [9, 10, 11, 12, 13, 36, 37, 38, 39, 40, 41] (by decide +kernel) (by decide +kernel)
set_option maxRecDepth 20000 in
theorem gX1_orOrXor_X1_tellAllInts : GoodIn wsX1_orOrXor (wsV RX1 94 RX1 yX1_tellAllInts wsX1_tellAllInts) := goodIn_app (goodIn_of _ (by decide +kernel)) ggX1_orOrXor_X1_tellAllInts
set_option maxRecDepth 20000 in
theorem ggX1_orOrXor_X1_onesNotBelow : GoodIn wsX1_orOrXor wsX1_onesNotBelow := goodIn_r _ [16] (by decide +kernel) (by decide +kernel)
set_option maxRecDepth 20000 in
theorem gX1_orOrXor_X1_onesNotBelow : GoodIn wsX1_orOrXor (va_wsS RX1 139 yX1_onesNotBelow wsX1_onesNotBelow) := goodIn_app (goodIn_of _ (by decide +kernel)) ggX1_orOrXor_X1_onesNotBelow
set_option maxRecDepth 20000 in
theorem ggX1_orOrXor_X1_tell : GoodIn wsX1_orOrXor wsX1_tell := goodIn_r _ [20, 11, 13, 21, 22, 8, 23, 24, 25, 26, 27, 28, 29, 10, 30, 31, 32, 33, 34, 35, 12, 5, 6, 7, 9, 36, 37, 38, 39, 40, 41] (by decide +kernel) (by decide +kernel)
set_option maxRecDepth 20000 in
theorem gX1_orOrXor_X1_tell : GoodIn wsX1_orOrXor (wsV RX1 52 RX1 yX1_tell wsX1_tell) := goodIn_app (goodIn_of _ (by decide +kernel)) ggX1_orOrXor_X1_tell
theorem dX1_orOrXor_0 : decode cX1_orOrXor 0 = .ok (.iload_n 1, 1) := by decide +kernel
theorem dX1_orOrXor_1 : decode cX1_orOrXor 1 = .ok (.ifCond .lt 7, 3) := by decide +kernel
theorem dX1_orOrXor_4 : decode cX1_orOrXor 4 = .ok (.iload_n 3, 1) := by decide +kernel
theorem dX1_orOrXor_5 : decode cX1_orOrXor 5 = .ok (.ifCond .ge 10, 3) := by decide +kernel
theorem dX1_orOrXor_8 : decode cX1_orOrXor 8 = .ok (.aload_n 0, 1) := by decide +kernel
theorem dX1_orOrXor_9 : decode cX1_orOrXor 9 = .ok (.invokevirtual 94, 3) := by decide +kernel
theorem dX1_orOrXor_12 : decode cX1_orOrXor 12 = .ok (.goto 18, 3) := by decide +kernel
theorem dX1_orOrXor_15 : decode cX1_orOrXor 15 = .ok (.aload_n 0, 1) := by decide +kernel
theorem dX1_orOrXor_16 : decode cX1_orOrXor 16 = .ok (.lconst 0, 1) := by decide +kernel
theorem dX1_orOrXor_17 : decode cX1_orOrXor 17 = .ok (.iload_n 2, 1) := by decide +kernel
theorem dX1_orOrXor_18 : decode cX1_orOrXor 18 = .ok (.iload 4, 2) := by decide +kernel
theorem dX1_orOrXor_20 : decode cX1_orOrXor 20 = .ok (.invokestatic 137, 3) := by decide +kernel
theorem dX1_orOrXor_23 : decode cX1_orOrXor 23 = .ok (.invokestatic 139, 3) := by decide +kernel
theorem dX1_orOrXor_26 : decode cX1_orOrXor 26 = .ok (.i2l, 1) := by decide +kernel
theorem dX1_orOrXor_27 : decode cX1_orOrXor 27 = .ok (.invokevirtual 52, 3) := by decide +kernel
theorem dX1_orOrXor_30 : decode cX1_orOrXor 30 = .ok (.return_, 1) := by decide +kernel
theorem dX1_onesNotBelow_0 : decode cX1_onesNotBelow 0 = .ok (.iconst 0, 1) := by decide +kernel
theorem dX1_onesNotBelow_1 : decode cX1_onesNotBelow 1 = .ok (.istore_n 1, 1) := by decide +kernel
theorem dX1_onesNotBelow_2 : decode cX1_onesNotBelow 2 = .ok (.iconst 0, 1) := by decide +kernel
theorem dX1_onesNotBelow_3 : decode cX1_onesNotBelow 3 = .ok (.istore_n 2, 1) := by decide +kernel
theorem dX1_onesNotBelow_4 : decode cX1_onesNotBelow 4 = .ok (.iload_n 2, 1) := by decide +kernel
theorem dX1_onesNotBelow_5 : decode cX1_onesNotBelow 5 = .ok (.bipush 31, 2) := by decide +kernel
theorem dX1_onesNotBelow_7 : decode cX1_onesNotBelow 7 = .ok (.if_icmp .ge 20, 3) := by decide +kernel
theorem dX1_onesNotBelow_10 : decode cX1_onesNotBelow 10 = .ok (.iload_n 1, 1) := by decide +kernel
theorem dX1_onesNotBelow_11 : decode cX1_onesNotBelow 11 = .ok (.iload_n 0, 1) := by decide +kernel
theorem dX1_onesNotBelow_12 : decode cX1_onesNotBelow 12 = .ok (.if_icmp .ge 15, 3) := by decide +kernel
theorem dX1_onesNotBelow_15 : decode cX1_onesNotBelow 15 = .ok (.iconst 2, 1) := by decide +kernel
theorem dX1_onesNotBelow_16 : decode cX1_onesNotBelow 16 = .ok (.iload_n 1, 1) := by decide +kernel
theorem dX1_onesNotBelow_17 : decode cX1_onesNotBelow 17 = .ok (.imul, 1) := by decide +kernel
theorem dX1_onesNotBelow_18 : decode cX1_onesNotBelow 18 = .ok (.iconst 1, 1) := by decide +kernel
theorem dX1_onesNotBelow_19 : decode cX1_onesNotBelow 19 = .ok (.iadd, 1) := by decide +kernel
theorem dX1_onesNotBelow_20 : decode cX1_onesNotBelow 20 = .ok (.istore_n 1, 1) := by decide +kernel
theorem dX1_onesNotBelow_21 : decode cX1_onesNotBelow 21 = .ok (.iinc 2 1, 3) := by decide +kernel
theorem dX1_onesNotBelow_24 : decode cX1_onesNotBelow 24 = .ok (.goto (-20), 3) := by decide +kernel
theorem dX1_onesNotBelow_27 : decode cX1_onesNotBelow 27 = .ok (.iload_n 1, 1) := by decide +kernel
theorem dX1_onesNotBelow_28 : decode cX1_onesNotBelow 28 = .ok (.ireturn, 1) := by decide +kernel
set_option maxRecDepth 20000 in
theorem ggX1_shiftLeft_X1_multiply : GoodIn wsX1_shiftLeft wsX1_multiply := goodIn_r _ [5, 6, 7, 8, 9, 10, 11, 12, 13, 14, 15, 16, 17, 18, 19, 20, 21, 22, 23, 24, 25, 26, 27, 4, 28, 29, 30, 31, 32, 33, 34, 35, 36, 37, 38, 39, 40, 41, 42, 43, 44, 45, 46, 47, 48, 49, 50, 51, 52, 53, 54, 55, 56, 57, 58, 59] (by decide +kernel) (by decide +kernel)
set_option maxRecDepth 20000 in
theorem gX1_shiftLeft_X1_multiply : GoodIn wsX1_shiftLeft (wsV RX1 56 RX1 yX1_multiply wsX1_multiply) := goodIn_app (goodIn_of _ (by decide +kernel)) ggX1_shiftLeft_X1_multiply
set_option maxRecDepth 20000 in
theorem ggX1_shiftLeft_X1_tellAllInts : GoodIn wsX1_shiftLeft wsX1_tellAllInts := goodIn_r _ [51, 40, 29, 47, 30, 52, 53, 54, 55, 56, 57] (by decide +kernel) (by decide +kernel)
set_option maxRecDepth 20000 in
theorem gX1_shiftLeft_X1_tellAllInts : GoodIn wsX1_shiftLeft (wsV RX1 94 RX1 yX1_tellAllInts wsX1_tellAllInts) := goodIn_app (goodIn_of _ (by decide +kernel)) ggX1_shiftLeft_X1_tellAllInts
theorem dX1_shiftLeft_0 : decode cX1_shiftLeft 0 = .ok (.iload_n 3, 1) := by decide +kernel
theorem dX1_shiftLeft_1 : decode cX1_shiftLeft 1 = .ok (.iload 4, 2) := by decide +kernel
theorem dX1_shiftLeft_3 : decode cX1_shiftLeft 3 = .ok (.if_icmp .ne 26, 3) := by decide +kernel
theorem dX1_shiftLeft_6 : decode cX1_shiftLeft 6 = .ok (.lconst 1, 1) := by decide +kernel
theorem dX1_shiftLeft_7 : decode cX1_shiftLeft 7 = .ok (.iload_n 3, 1) := by decide +kernel
theorem dX1_shiftLeft_8 : decode cX1_shiftLeft 8 = .ok (.bipush 31, 2) := by decide +kernel
theorem dX1_shiftLeft_10 : decode cX1_shiftLeft 10 = .ok (.iand, 1) := by decide +kernel
theorem dX1_shiftLeft_11 : decode cX1_shiftLeft 11 = .ok (.lshl, 1) := by decide +kernel
theorem dX1_shiftLeft_12 : decode cX1_shiftLeft 12 = .ok (.lstore 5, 2) := by decide +kernel
theorem dX1_shiftLeft_14 : decode cX1_shiftLeft 14 = .ok (.aload_n 0, 1) := by decide +kernel
theorem dX1_shiftLeft_15 : decode cX1_shiftLeft 15 = .ok (.iload_n 1, 1) := by decide +kernel
theorem dX1_shiftLeft_16 : decode cX1_shiftLeft 16 = .ok (.i2l, 1) := by decide +kernel
theorem dX1_shiftLeft_17 : decode cX1_shiftLeft 17 = .ok (.iload_n 2, 1) := by decide +kernel
theorem dX1_shiftLeft_18 : decode cX1_shiftLeft 18 = .ok (.i2l, 1) := by decide +kernel
theorem dX1_shiftLeft_19 : decode cX1_shiftLeft 19 = .ok (.lload 5, 2) := by decide +kernel
theorem dX1_shiftLeft_21 : decode cX1_shiftLeft 21 = .ok (.lload 5, 2) := by decide +kernel
theorem dX1_shiftLeft_23 : decode cX1_shiftLeft 23 = .ok (.invokevirtual 56, 3) := by decide +kernel
theorem dX1_shiftLeft_26 : decode cX1_shiftLeft 26 = .ok (.goto 7, 3) := by decide +kernel
theorem dX1_shiftLeft_29 : decode cX1_shiftLeft 29 = .ok (.aload_n 0, 1) := by decide +kernel
theorem dX1_shiftLeft_30 : decode cX1_shiftLeft 30 = .ok (.invokevirtual 94, 3) := by decide +kernel
theorem dX1_shiftLeft_33 : decode cX1_shiftLeft 33 = .ok (.return_, 1) := by decide +kernel
set_option maxRecDepth 20000 in
theorem ggX1_shiftRight_X1_tell : GoodIn wsX1_shiftRight wsX1_tell := goodIn_r _ [12, 13, 14, 15, 16, 11, 17, 18, 19, 20, 21, 22, 23, 24, 25, 26, 27, 28, 29, 30, 31, 32, 33, 34, 35, 36, 37, 38, 39, 40, 41] (by decide +kernel) (by decide +kernel)
set_option maxRecDepth 20000 in
theorem gX1_shiftRight_X1_tell : GoodIn wsX1_shiftRight (wsV RX1 52 RX1 yX1_tell wsX1_tell) := goodIn_app (goodIn_of _ (by decide +kernel)) ggX1_shiftRight_X1_tell
theorem dX1_shiftRight_0 : decode cX1_shiftRight 0 = .ok (.iload_n 3, 1) := by decide +kernel
theorem dX1_shiftRight_1 : decode cX1_shiftRight 1 = .ok (.iload 4, 2) := by decide +kernel
theorem dX1_shiftRight_3 : decode cX1_shiftRight 3 = .ok (.if_icmp .ne 24, 3) := by decide +kernel
theorem dX1_shiftRight_6 : decode cX1_shiftRight 6 = .ok (.aload_n 0, 1) := by decide +kernel
theorem dX1_shiftRight_7 : decode cX1_shiftRight 7 = .ok (.iload_n 1, 1) := by decide +kernel
theorem dX1_shiftRight_8 : decode cX1_shiftRight 8 = .ok (.iload_n 3, 1) := by decide +kernel
theorem dX1_shiftRight_9 : decode cX1_shiftRight 9 = .ok (.bipush 31, 2) := by decide +kernel
theorem dX1_shiftRight_11 : decode cX1_shiftRight 11 = .ok (.iand, 1) := by decide +kernel
theorem dX1_shiftRight_12 : decode cX1_shiftRight 12 = .ok (.ishr, 1) := by decide +kernel
theorem dX1_shiftRight_13 : decode cX1_shiftRight 13 = .ok (.i2l, 1) := by decide +kernel
theorem dX1_shiftRight_14 : decode cX1_shiftRight 14 = .ok (.iload_n 2, 1) := by decide +kernel
theorem dX1_shiftRight_15 : decode cX1_shiftRight 15 = .ok (.iload_n 3, 1) := by decide +kernel
theorem dX1_shiftRight_16 : decode cX1_shiftRight 16 = .ok (.bipush 31, 2) := by decide +kernel
theorem dX1_shiftRight_18 : decode cX1_shiftRight 18 = .ok (.iand, 1) := by decide +kernel
theorem dX1_shiftRight_19 : decode cX1_shiftRight 19 = .ok (.ishr, 1) := by decide +kernel
theorem dX1_shiftRight_20 : decode cX1_shiftRight 20 = .ok (.i2l, 1) := by decide +kernel
theorem dX1_shiftRight_21 : decode cX1_shiftRight 21 = .ok (.invokevirtual 52, 3) := by decide +kernel
theorem dX1_shiftRight_24 : decode cX1_shiftRight 24 = .ok (.goto 19, 3) := by decide +kernel
theorem dX1_shiftRight_27 : decode cX1_shiftRight 27 = .ok (.aload_n 0, 1) := by decide +kernel
theorem dX1_shiftRight_28 : decode cX1_shiftRight 28 = .ok (.iload_n 1, 1) := by decide +kernel
theorem dX1_shiftRight_29 : decode cX1_shiftRight 29 = .ok (.iconst 0, 1) := by decide +kernel
theorem dX1_shiftRight_30 : decode cX1_shiftRight 30 = .ok (.invokestatic 134, 3) := by decide +kernel
theorem dX1_shiftRight_33 : decode cX1_shiftRight 33 = .ok (.i2l, 1) := by decide +kernel
theorem dX1_shiftRight_34 : decode cX1_shiftRight 34 = .ok (.iload_n 2, 1) := by decide +kernel
theorem dX1_shiftRight_35 : decode cX1_shiftRight 35 = .ok (.iconst (-1), 1) := by decide +kernel
theorem dX1_shiftRight_36 : decode cX1_shiftRight 36 = .ok (.invokestatic 137, 3) := by decide +kernel
theorem dX1_shiftRight_39 : decode cX1_shiftRight 39 = .ok (.i2l, 1) := by decide +kernel
theorem dX1_shiftRight_40 : decode cX1_shiftRight 40 = .ok (.invokevirtual 52, 3) := by decide +kernel
theorem dX1_shiftRight_43 : decode cX1_shiftRight 43 = .ok (.return_, 1) := by decide +kernel
