theorem dX6_doublets_5 : decode cX6_doublets 5 = .ok (.aload_n 0, 1) := by decide +kernel
theorem dX6_doublets_6 : decode cX6_doublets 6 = .ok (.getfield 35, 3) := by decide +kernel
theorem dX6_doublets_9 : decode cX6_doublets 9 = .ok (.if_icmp .ge 45, 3) := by decide +kernel
theorem dX6_doublets_12 : decode cX6_doublets 12 = .ok (.iconst 0, 1) := by decide +kernel
theorem dX6_doublets_13 : decode cX6_doublets 13 = .ok (.istore 4, 2) := by decide +kernel
theorem dX6_doublets_15 : decode cX6_doublets 15 = .ok (.iload 4, 2) := by decide +kernel
theorem dX6_doublets_17 : decode cX6_doublets 17 = .ok (.aload_n 0, 1) := by decide +kernel
theorem dX6_doublets_18 : decode cX6_doublets 18 = .ok (.getfield 35, 3) := by decide +kernel
theorem dX6_doublets_21 : decode cX6_doublets 21 = .ok (.if_icmp .ge 27, 3) := by decide +kernel
theorem dX6_doublets_24 : decode cX6_doublets 24 = .ok (.lload_n 1, 1) := by decide +kernel
theorem dX6_doublets_25 : decode cX6_doublets 25 = .ok (.aload_n 0, 1) := by decide +kernel
theorem dX6_doublets_26 : decode cX6_doublets 26 = .ok (.iload_n 3, 1) := by decide +kernel
theorem dX6_doublets_27 : decode cX6_doublets 27 = .ok (.iload 4, 2) := by decide +kernel
theorem dX6_doublets_29 : decode cX6_doublets 29 = .ok (.invokevirtual 164, 3) := by decide +kernel
theorem dX6_doublets_32 : decode cX6_doublets 32 = .ok (.ifCond .eq 7, 3) := by decide +kernel
theorem dX6_doublets_35 : decode cX6_doublets 35 = .ok (.lconst 1, 1) := by decide +kernel
theorem dX6_doublets_36 : decode cX6_doublets 36 = .ok (.goto 4, 3) := by decide +kernel
theorem dX6_doublets_39 : decode cX6_doublets 39 = .ok (.lconst 0, 1) := by decide +kernel
theorem dX6_doublets_40 : decode cX6_doublets 40 = .ok (.ladd, 1) := by decide +kernel
theorem dX6_doublets_41 : decode cX6_doublets 41 = .ok (.lstore_n 1, 1) := by decide +kernel
theorem dX6_doublets_42 : decode cX6_doublets 42 = .ok (.iinc 4 1, 3) := by decide +kernel
theorem dX6_doublets_45 : decode cX6_doublets 45 = .ok (.goto (-30), 3) := by decide +kernel
theorem dX6_doublets_48 : decode cX6_doublets 48 = .ok (.iinc 3 1, 3) := by decide +kernel
theorem dX6_doublets_51 : decode cX6_doublets 51 = .ok (.goto (-47), 3) := by decide +kernel
theorem dX6_doublets_54 : decode cX6_doublets 54 = .ok (.lload_n 1, 1) := by decide +kernel
theorem dX6_doublets_55 : decode cX6_doublets 55 = .ok (.lreturn, 1) := by decide +kernel
set_option maxRecDepth 20000 in
theorem ggX6_doubletCount_X6_doublets : GoodIn wsX6_doubletCount wsX6_doublets := goodIn_r _ [5, 6, 7, 8, 9, 4, 10, 11, 12, 13, 14, 15, 16, 17, 18, 19, 20, 21, 22, 23, 24, 25, 26, 27, 28, 29, 30, 31, 32, 33, 34, 35, 36, 37, 38, 39, 40, 41, 42] (by decide +kernel) (by decide +kernel)
set_option maxRecDepth 20000 in
theorem gX6_doubletCount_X6_doublets : GoodIn wsX6_doubletCount (wsV RX6 178 RX6 yX6_doublets wsX6_doublets) := goodIn_app (goodIn_of _ (by decide +kernel)) ggX6_doubletCount_X6_doublets
theorem dX6_doubletCount_0 : decode cX6_doubletCount 0 = .ok (.aload_n 0, 1) := by decide +kernel
theorem dX6_doubletCount_1 : decode cX6_doubletCount 1 = .ok (.invokevirtual 178, 3) := by decide +kernel
theorem dX6_doubletCount_4 : decode cX6_doubletCount 4 = .ok (.lreturn, 1) := by decide +kernel
set_option maxRecDepth 20000 in
theorem ggX6_x_X6_b : GoodIn wsX6_x wsX6_b := goodIn_r _ [5, 6, 11, 12, 13, 14, 15, 16, 17, 18, 19, 20, 21, 22, 23, 24, 25, 26, 27, 28] (by decide +kernel) (by decide +kernel)
set_option maxRecDepth 20000 in
theorem gX6_x_X6_b : GoodIn wsX6_x (wsV RX6 120 RX6 yX6_b wsX6_b) := goodIn_app (goodIn_of _ (by decide +kernel)) ggX6_x_X6_b
set_option maxRecDepth 20000 in
theorem ggX6_x_X6_d : GoodIn wsX6_x wsX6_d := goodIn_r _ [10, 6, 11, 12, 13, 14, 15, 16, 17, 18, 19, 20, 21, 22, 23, 24, 25, 26, 27, 28] (by decide +kernel) (by decide +kernel)
set_option maxRecDepth 20000 in
theorem gX6_x_X6_d : GoodIn wsX6_x (wsV RX6 125 RX6 yX6_d wsX6_d) := goodIn_app (goodIn_of _ (by decide +kernel)) ggX6_x_X6_d
theorem dX6_x_0 : decode cX6_x 0 = .ok (.aload_n 0, 1) := by decide +kernel
theorem dX6_x_1 : decode cX6_x 1 = .ok (.iload_n 1, 1) := by decide +kernel
theorem dX6_x_2 : decode cX6_x 2 = .ok (.invokevirtual 120, 3) := by decide +kernel
theorem dX6_x_5 : decode cX6_x 5 = .ok (.aload_n 0, 1) := by decide +kernel
theorem dX6_x_6 : decode cX6_x 6 = .ok (.iload_n 2, 1) := by decide +kernel
theorem dX6_x_7 : decode cX6_x 7 = .ok (.invokevirtual 125, 3) := by decide +kernel
theorem dX6_x_10 : decode cX6_x 10 = .ok (.lmul, 1) := by decide +kernel
theorem dX6_x_11 : decode cX6_x 11 = .ok (.aload_n 0, 1) := by decide +kernel
theorem dX6_x_12 : decode cX6_x 12 = .ok (.iload_n 2, 1) := by decide +kernel
theorem dX6_x_13 : decode cX6_x 13 = .ok (.invokevirtual 120, 3) := by decide +kernel
theorem dX6_x_16 : decode cX6_x 16 = .ok (.aload_n 0, 1) := by decide +kernel
theorem dX6_x_17 : decode cX6_x 17 = .ok (.iload_n 1, 1) := by decide +kernel
theorem dX6_x_18 : decode cX6_x 18 = .ok (.invokevirtual 125, 3) := by decide +kernel
theorem dX6_x_21 : decode cX6_x 21 = .ok (.lmul, 1) := by decide +kernel
theorem dX6_x_22 : decode cX6_x 22 = .ok (.lsub, 1) := by decide +kernel
theorem dX6_x_23 : decode cX6_x 23 = .ok (.lreturn, 1) := by decide +kernel
set_option maxRecDepth 20000 in
theorem ggX6_t_X6_a : GoodIn wsX6_t wsX6_a := goodIn_r _ [5, 6, 7, 20, 21, 22, 23, 24, 25, 26, 27, 28, 29, 30, 31, 32, 33, 34, 35, 36, 37] (by decide +kernel) (by decide +kernel)
set_option maxRecDepth 20000 in
theorem gX6_t_X6_a : GoodIn wsX6_t (wsV RX6 117 RX6 yX6_a wsX6_a) := goodIn_app (goodIn_of _ (by decide +kernel)) ggX6_t_X6_a
set_option maxRecDepth 20000 in
theorem ggX6_t_X6_x : GoodIn wsX6_t wsX6_x := goodIn_r _ [11, 12, 13, 14, 4, 15, 6, 16, 17, 18, 19, 20, 21, 22, 23, 24, 25, 26, 27, 28, 29, 30, 31, 32, 33, 34, 35, 36, 37] (by decide +kernel) (by decide +kernel)
set_option maxRecDepth 20000 in
theorem gX6_t_X6_x : GoodIn wsX6_t (wsV RX6 192 RX6 yX6_x wsX6_x) := goodIn_app (goodIn_of _ (by decide +kernel)) ggX6_t_X6_x
theorem dX6_t_0 : decode cX6_t 0 = .ok (.aload_n 0, 1) := by decide +kernel
theorem dX6_t_1 : decode cX6_t 1 = .ok (.iload_n 1, 1) := by decide +kernel
theorem dX6_t_2 : decode cX6_t 2 = .ok (.invokevirtual 117, 3) := by decide +kernel
theorem dX6_t_5 : decode cX6_t 5 = .ok (.aload_n 0, 1) := by decide +kernel
theorem dX6_t_6 : decode cX6_t 6 = .ok (.iload_n 2, 1) := by decide +kernel
theorem dX6_t_7 : decode cX6_t 7 = .ok (.iload_n 3, 1) := by decide +kernel
theorem dX6_t_8 : decode cX6_t 8 = .ok (.invokevirtual 192, 3) := by decide +kernel
theorem dX6_t_11 : decode cX6_t 11 = .ok (.lmul, 1) := by decide +kernel
theorem dX6_t_12 : decode cX6_t 12 = .ok (.aload_n 0, 1) := by decide +kernel
theorem dX6_t_13 : decode cX6_t 13 = .ok (.iload_n 2, 1) := by decide +kernel
theorem dX6_t_14 : decode cX6_t 14 = .ok (.invokevirtual 117, 3) := by decide +kernel
theorem dX6_t_17 : decode cX6_t 17 = .ok (.aload_n 0, 1) := by decide +kernel
theorem dX6_t_18 : decode cX6_t 18 = .ok (.iload_n 3, 1) := by decide +kernel
theorem dX6_t_19 : decode cX6_t 19 = .ok (.iload_n 1, 1) := by decide +kernel
theorem dX6_t_20 : decode cX6_t 20 = .ok (.invokevirtual 192, 3) := by decide +kernel
theorem dX6_t_23 : decode cX6_t 23 = .ok (.lmul, 1) := by decide +kernel
theorem dX6_t_24 : decode cX6_t 24 = .ok (.ladd, 1) := by decide +kernel
theorem dX6_t_25 : decode cX6_t 25 = .ok (.aload_n 0, 1) := by decide +kernel
theorem dX6_t_26 : decode cX6_t 26 = .ok (.iload_n 3, 1) := by decide +kernel
theorem dX6_t_27 : decode cX6_t 27 = .ok (.invokevirtual 117, 3) := by decide +kernel
theorem dX6_t_30 : decode cX6_t 30 = .ok (.aload_n 0, 1) := by decide +kernel
theorem dX6_t_31 : decode cX6_t 31 = .ok (.iload_n 1, 1) := by decide +kernel
theorem dX6_t_32 : decode cX6_t 32 = .ok (.iload_n 2, 1) := by decide +kernel
theorem dX6_t_33 : decode cX6_t 33 = .ok (.invokevirtual 192, 3) := by decide +kernel
theorem dX6_t_36 : decode cX6_t 36 = .ok (.lmul, 1) := by decide +kernel
theorem dX6_t_37 : decode cX6_t 37 = .ok (.ladd, 1) := by decide +kernel
theorem dX6_t_38 : decode cX6_t 38 = .ok (.lreturn, 1) := by decide +kernel
set_option maxRecDepth 20000 in
theorem ggX6_tripletNow_X6_a : GoodIn wsX6_tripletNow wsX6_a := goodIn_r _ [5, 6, 7, 27, 28, 29, 30, 31, 32, 33, 34, 35, 36, 37, 38, 39, 40, 41, 42, 43, 44] (by decide +kernel) (by decide +kernel)
set_option maxRecDepth 20000 in
theorem gX6_tripletNow_X6_a : GoodIn wsX6_tripletNow (wsV RX6 117 RX6 yX6_a wsX6_a) := goodIn_app (goodIn_of _ (by decide +kernel)) ggX6_tripletNow_X6_a
set_option maxRecDepth 20000 in
theorem ggX6_tripletNow_X6_x : GoodIn wsX6_tripletNow wsX6_x := goodIn_r _ [11, 12, 13, 14, 4, 15, 6, 16, 17, 18, 19, 27, 28, 29, 30, 31, 32, 33, 34, 35, 36, 37, 38, 39, 40, 41, 42, 43, 44] (by decide +kernel) (by decide +kernel)
set_option maxRecDepth 20000 in
theorem gX6_tripletNow_X6_x : GoodIn wsX6_tripletNow (wsV RX6 192 RX6 yX6_x wsX6_x) := goodIn_app (goodIn_of _ (by decide +kernel)) ggX6_tripletNow_X6_x
set_option maxRecDepth 20000 in
theorem ggX6_tripletNow_X6_t : GoodIn wsX6_tripletNow wsX6_t := goodIn_r _ [23, 1, 2, 3, 4, 5, 6, 7, 8, 9, 10, 11, 12, 13, 14, 15, 16, 17, 18, 19, 27, 28, 29, 30, 31, 32, 33, 34, 35, 36, 37, 38, 39, 40, 41, 42, 43, 44] (by decide +kernel) (by decide +kernel)
set_option maxRecDepth 20000 in
theorem gX6_tripletNow_X6_t : GoodIn wsX6_tripletNow (wsV RX6 195 RX6 yX6_t wsX6_t) := goodIn_app (goodIn_of _ (by decide +kernel)) ggX6_tripletNow_X6_t
set_option maxRecDepth 20000 in
theorem ggX6_tripletNow_X6_floor : GoodIn wsX6_tripletNow wsX6_floor := goodIn_r _ [26] (by decide +kernel) (by decide +kernel)
set_option maxRecDepth 20000 in
theorem gX6_tripletNow_X6_floor : GoodIn wsX6_tripletNow (va_wsS RX6 144 yX6_floor wsX6_floor) := goodIn_app (goodIn_of _ (by decide +kernel)) ggX6_tripletNow_X6_floor
theorem dX6_tripletNow_0 : decode cX6_tripletNow 0 = .ok (.iload 5, 2) := by decide +kernel
theorem dX6_tripletNow_2 : decode cX6_tripletNow 2 = .ok (.ifCond .ne 18, 3) := by decide +kernel
theorem dX6_tripletNow_5 : decode cX6_tripletNow 5 = .ok (.aload_n 0, 1) := by decide +kernel
theorem dX6_tripletNow_6 : decode cX6_tripletNow 6 = .ok (.iload_n 1, 1) := by decide +kernel
theorem dX6_tripletNow_7 : decode cX6_tripletNow 7 = .ok (.invokevirtual 117, 3) := by decide +kernel
theorem dX6_tripletNow_10 : decode cX6_tripletNow 10 = .ok (.aload_n 0, 1) := by decide +kernel
theorem dX6_tripletNow_11 : decode cX6_tripletNow 11 = .ok (.iload_n 2, 1) := by decide +kernel
theorem dX6_tripletNow_12 : decode cX6_tripletNow 12 = .ok (.iload_n 3, 1) := by decide +kernel
theorem dX6_tripletNow_13 : decode cX6_tripletNow 13 = .ok (.invokevirtual 192, 3) := by decide +kernel
theorem dX6_tripletNow_16 : decode cX6_tripletNow 16 = .ok (.lmul, 1) := by decide +kernel
theorem dX6_tripletNow_17 : decode cX6_tripletNow 17 = .ok (.goto 36, 3) := by decide +kernel
theorem dX6_tripletNow_20 : decode cX6_tripletNow 20 = .ok (.iload 5, 2) := by decide +kernel
theorem dX6_tripletNow_22 : decode cX6_tripletNow 22 = .ok (.iconst 1, 1) := by decide +kernel
theorem dX6_tripletNow_23 : decode cX6_tripletNow 23 = .ok (.if_icmp .ne 18, 3) := by decide +kernel
theorem dX6_tripletNow_26 : decode cX6_tripletNow 26 = .ok (.aload_n 0, 1) := by decide +kernel
theorem dX6_tripletNow_27 : decode cX6_tripletNow 27 = .ok (.iload_n 2, 1) := by decide +kernel
theorem dX6_tripletNow_28 : decode cX6_tripletNow 28 = .ok (.invokevirtual 117, 3) := by decide +kernel
theorem dX6_tripletNow_31 : decode cX6_tripletNow 31 = .ok (.aload_n 0, 1) := by decide +kernel
theorem dX6_tripletNow_32 : decode cX6_tripletNow 32 = .ok (.iload_n 3, 1) := by decide +kernel
theorem dX6_tripletNow_33 : decode cX6_tripletNow 33 = .ok (.iload_n 1, 1) := by decide +kernel
theorem dX6_tripletNow_34 : decode cX6_tripletNow 34 = .ok (.invokevirtual 192, 3) := by decide +kernel
theorem dX6_tripletNow_37 : decode cX6_tripletNow 37 = .ok (.lmul, 1) := by decide +kernel
theorem dX6_tripletNow_38 : decode cX6_tripletNow 38 = .ok (.goto 15, 3) := by decide +kernel
theorem dX6_tripletNow_41 : decode cX6_tripletNow 41 = .ok (.aload_n 0, 1) := by decide +kernel
theorem dX6_tripletNow_42 : decode cX6_tripletNow 42 = .ok (.iload_n 3, 1) := by decide +kernel
theorem dX6_tripletNow_43 : decode cX6_tripletNow 43 = .ok (.invokevirtual 117, 3) := by decide +kernel
theorem dX6_tripletNow_46 : decode cX6_tripletNow 46 = .ok (.aload_n 0, 1) := by decide +kernel
theorem dX6_tripletNow_47 : decode cX6_tripletNow 47 = .ok (.iload_n 1, 1) := by decide +kernel
theorem dX6_tripletNow_48 : decode cX6_tripletNow 48 = .ok (.iload_n 2, 1) := by decide +kernel
theorem dX6_tripletNow_49 : decode cX6_tripletNow 49 = .ok (.invokevirtual 192, 3) := by decide +kernel
theorem dX6_tripletNow_52 : decode cX6_tripletNow 52 = .ok (.lmul, 1) := by decide +kernel
theorem dX6_tripletNow_53 : decode cX6_tripletNow 53 = .ok (.lstore 6, 2) := by decide +kernel
theorem dX6_tripletNow_55 : decode cX6_tripletNow 55 = .ok (.iload 4, 2) := by decide +kernel
theorem dX6_tripletNow_57 : decode cX6_tripletNow 57 = .ok (.i2l, 1) := by decide +kernel
theorem dX6_tripletNow_58 : decode cX6_tripletNow 58 = .ok (.lload 6, 2) := by decide +kernel
theorem dX6_tripletNow_60 : decode cX6_tripletNow 60 = .ok (.lmul, 1) := by decide +kernel
theorem dX6_tripletNow_61 : decode cX6_tripletNow 61 = .ok (.aload_n 0, 1) := by decide +kernel
theorem dX6_tripletNow_62 : decode cX6_tripletNow 62 = .ok (.iload_n 1, 1) := by decide +kernel
theorem dX6_tripletNow_63 : decode cX6_tripletNow 63 = .ok (.iload_n 2, 1) := by decide +kernel
theorem dX6_tripletNow_64 : decode cX6_tripletNow 64 = .ok (.iload_n 3, 1) := by decide +kernel
theorem dX6_tripletNow_65 : decode cX6_tripletNow 65 = .ok (.invokevirtual 195, 3) := by decide +kernel
theorem dX6_tripletNow_68 : decode cX6_tripletNow 68 = .ok (.invokestatic 144, 3) := by decide +kernel
theorem dX6_tripletNow_71 : decode cX6_tripletNow 71 = .ok (.lreturn, 1) := by decide +kernel
set_option maxRecDepth 20000 in
theorem ggX6_tripletPower_X6_isGlass : GoodIn wsX6_tripletPower wsX6_isGlass := goodIn_r _ [12, 13, 14, 15, 11, 16, 46, 47, 48, 49, 50, 51, 52, 53, 54, 55, 56, 57, 58, 59, 60, 61, 62, 63] (by decide +kernel) (by decide +kernel)
set_option maxRecDepth 20000 in
theorem gX6_tripletPower_X6_isGlass : GoodIn wsX6_tripletPower (wsV RX6 100 RX6 yX6_isGlass wsX6_isGlass) := goodIn_app (goodIn_of _ (by decide +kernel)) ggX6_tripletPower_X6_isGlass
set_option maxRecDepth 20000 in
theorem ggX6_tripletPower_X6_within : GoodIn wsX6_tripletPower wsX6_within := goodIn_r _ [16] (by decide +kernel) (by decide +kernel)
set_option maxRecDepth 20000 in
theorem gX6_tripletPower_X6_within : GoodIn wsX6_tripletPower (va_wsS RX6 39 yX6_within wsX6_within) := goodIn_app (goodIn_of _ (by decide +kernel)) ggX6_tripletPower_X6_within
set_option maxRecDepth 20000 in
theorem ggX6_tripletPower_X6_t : GoodIn wsX6_tripletPower wsX6_t := goodIn_r _ [20, 21, 22, 23, 11, 24, 25, 26, 27, 28, 29, 30, 31, 32, 33, 34, 35, 36, 37, 38, 46, 47, 48, 49, 50, 51, 52, 53, 54, 55, 56, 57, 58, 59, 60, 61, 62, 63] (by decide +kernel) (by decide +kernel)
set_option maxRecDepth 20000 in
theorem gX6_tripletPower_X6_t : GoodIn wsX6_tripletPower (wsV RX6 195 RX6 yX6_t wsX6_t) := goodIn_app (goodIn_of _ (by decide +kernel)) ggX6_tripletPower_X6_t
set_option maxRecDepth 20000 in
theorem ggX6_tripletPower_X6_tripletNow : GoodIn wsX6_tripletPower wsX6_tripletNow := goodIn_r _ [42, 21, 22, 23, 11, 24, 25, 26, 27, 28, 29, 30, 31, 32, 33, 34, 35, 36, 37, 38, 17, 18, 19, 20, 43, 44, 45, 46, 47, 48, 49, 50, 51, 52, 53, 54, 55, 56, 57, 58, 59, 60, 61, 62, 63] (by decide +kernel) (by decide +kernel)
set_option maxRecDepth 20000 in
theorem gX6_tripletPower_X6_tripletNow : GoodIn wsX6_tripletPower (wsV RX6 199 RX6 yX6_tripletNow wsX6_tripletNow) := goodIn_app (goodIn_of _ (by decide +kernel)) ggX6_tripletPower_X6_tripletNow
theorem dX6_tripletPower_0 : decode cX6_tripletPower 0 = .ok (.aload_n 0, 1) := by decide +kernel
theorem dX6_tripletPower_1 : decode cX6_tripletPower 1 = .ok (.iload_n 1, 1) := by decide +kernel
theorem dX6_tripletPower_2 : decode cX6_tripletPower 2 = .ok (.invokevirtual 100, 3) := by decide +kernel
theorem dX6_tripletPower_5 : decode cX6_tripletPower 5 = .ok (.ifCond .eq 19, 3) := by decide +kernel
theorem dX6_tripletPower_8 : decode cX6_tripletPower 8 = .ok (.aload_n 0, 1) := by decide +kernel
theorem dX6_tripletPower_9 : decode cX6_tripletPower 9 = .ok (.iload_n 2, 1) := by decide +kernel
theorem dX6_tripletPower_10 : decode cX6_tripletPower 10 = .ok (.invokevirtual 100, 3) := by decide +kernel
theorem dX6_tripletPower_13 : decode cX6_tripletPower 13 = .ok (.ifCond .eq 11, 3) := by decide +kernel
theorem dX6_tripletPower_16 : decode cX6_tripletPower 16 = .ok (.aload_n 0, 1) := by decide +kernel
theorem dX6_tripletPower_17 : decode cX6_tripletPower 17 = .ok (.iload_n 3, 1) := by decide +kernel
theorem dX6_tripletPower_18 : decode cX6_tripletPower 18 = .ok (.invokevirtual 100, 3) := by decide +kernel
theorem dX6_tripletPower_21 : decode cX6_tripletPower 21 = .ok (.ifCond .ne 7, 3) := by decide +kernel
theorem dX6_tripletPower_24 : decode cX6_tripletPower 24 = .ok (.ldc2_w 104, 3) := by decide +kernel
theorem dX6_tripletPower_27 : decode cX6_tripletPower 27 = .ok (.lreturn, 1) := by decide +kernel
theorem dX6_tripletPower_28 : decode cX6_tripletPower 28 = .ok (.iload_n 1, 1) := by decide +kernel
theorem dX6_tripletPower_29 : decode cX6_tripletPower 29 = .ok (.iload_n 2, 1) := by decide +kernel
theorem dX6_tripletPower_30 : decode cX6_tripletPower 30 = .ok (.if_icmp .eq 13, 3) := by decide +kernel
theorem dX6_tripletPower_33 : decode cX6_tripletPower 33 = .ok (.iload_n 1, 1) := by decide +kernel
theorem dX6_tripletPower_34 : decode cX6_tripletPower 34 = .ok (.iload_n 3, 1) := by decide +kernel
theorem dX6_tripletPower_35 : decode cX6_tripletPower 35 = .ok (.if_icmp .eq 8, 3) := by decide +kernel
theorem dX6_tripletPower_38 : decode cX6_tripletPower 38 = .ok (.iload_n 2, 1) := by decide +kernel
theorem dX6_tripletPower_39 : decode cX6_tripletPower 39 = .ok (.iload_n 3, 1) := by decide +kernel
theorem dX6_tripletPower_40 : decode cX6_tripletPower 40 = .ok (.if_icmp .ne 7, 3) := by decide +kernel
theorem dX6_tripletPower_43 : decode cX6_tripletPower 43 = .ok (.ldc2_w 98, 3) := by decide +kernel
theorem dX6_tripletPower_46 : decode cX6_tripletPower 46 = .ok (.lreturn, 1) := by decide +kernel
theorem dX6_tripletPower_47 : decode cX6_tripletPower 47 = .ok (.iload 4, 2) := by decide +kernel
theorem dX6_tripletPower_49 : decode cX6_tripletPower 49 = .ok (.i2l, 1) := by decide +kernel
theorem dX6_tripletPower_50 : decode cX6_tripletPower 50 = .ok (.ldc2_w 136, 3) := by decide +kernel
theorem dX6_tripletPower_53 : decode cX6_tripletPower 53 = .ok (.ldc2_w 138, 3) := by decide +kernel
theorem dX6_tripletPower_56 : decode cX6_tripletPower 56 = .ok (.invokestatic 39, 3) := by decide +kernel
theorem dX6_tripletPower_59 : decode cX6_tripletPower 59 = .ok (.ifCond .eq 16, 3) := by decide +kernel
theorem dX6_tripletPower_62 : decode cX6_tripletPower 62 = .ok (.iload 5, 2) := by decide +kernel
theorem dX6_tripletPower_64 : decode cX6_tripletPower 64 = .ok (.i2l, 1) := by decide +kernel
theorem dX6_tripletPower_65 : decode cX6_tripletPower 65 = .ok (.lconst 0, 1) := by decide +kernel
theorem dX6_tripletPower_66 : decode cX6_tripletPower 66 = .ok (.ldc2_w 46, 3) := by decide +kernel
theorem dX6_tripletPower_69 : decode cX6_tripletPower 69 = .ok (.invokestatic 39, 3) := by decide +kernel
theorem dX6_tripletPower_72 : decode cX6_tripletPower 72 = .ok (.ifCond .ne 7, 3) := by decide +kernel
theorem dX6_tripletPower_75 : decode cX6_tripletPower 75 = .ok (.ldc2_w 53, 3) := by decide +kernel
theorem dX6_tripletPower_78 : decode cX6_tripletPower 78 = .ok (.lreturn, 1) := by decide +kernel
theorem dX6_tripletPower_79 : decode cX6_tripletPower 79 = .ok (.aload_n 0, 1) := by decide +kernel
theorem dX6_tripletPower_80 : decode cX6_tripletPower 80 = .ok (.iload_n 1, 1) := by decide +kernel
theorem dX6_tripletPower_81 : decode cX6_tripletPower 81 = .ok (.iload_n 2, 1) := by decide +kernel
theorem dX6_tripletPower_82 : decode cX6_tripletPower 82 = .ok (.iload_n 3, 1) := by decide +kernel
theorem dX6_tripletPower_83 : decode cX6_tripletPower 83 = .ok (.invokevirtual 195, 3) := by decide +kernel
theorem dX6_tripletPower_86 : decode cX6_tripletPower 86 = .ok (.lconst 0, 1) := by decide +kernel
theorem dX6_tripletPower_87 : decode cX6_tripletPower 87 = .ok (.lcmp, 1) := by decide +kernel
theorem dX6_tripletPower_88 : decode cX6_tripletPower 88 = .ok (.ifCond .ne 9, 3) := by decide +kernel
theorem dX6_tripletPower_91 : decode cX6_tripletPower 91 = .ok (.ldc2_w 134, 3) := by decide +kernel
theorem dX6_tripletPower_94 : decode cX6_tripletPower 94 = .ok (.goto 14, 3) := by decide +kernel
theorem dX6_tripletPower_97 : decode cX6_tripletPower 97 = .ok (.aload_n 0, 1) := by decide +kernel
theorem dX6_tripletPower_98 : decode cX6_tripletPower 98 = .ok (.iload_n 1, 1) := by decide +kernel
theorem dX6_tripletPower_99 : decode cX6_tripletPower 99 = .ok (.iload_n 2, 1) := by decide +kernel
theorem dX6_tripletPower_100 : decode cX6_tripletPower 100 = .ok (.iload_n 3, 1) := by decide +kernel
theorem dX6_tripletPower_101 : decode cX6_tripletPower 101 = .ok (.iload 4, 2) := by decide +kernel
theorem dX6_tripletPower_103 : decode cX6_tripletPower 103 = .ok (.iload 5, 2) := by decide +kernel
theorem dX6_tripletPower_105 : decode cX6_tripletPower 105 = .ok (.invokevirtual 199, 3) := by decide +kernel
theorem dX6_tripletPower_108 : decode cX6_tripletPower 108 = .ok (.lreturn, 1) := by decide +kernel
set_option maxRecDepth 20000 in
theorem ggX6_strongest_X6_tripletNow : GoodIn wsX6_strongest wsX6_tripletNow := goodIn_r _ [5, 6, 7, 8, 4, 9, 10, 11, 12, 13, 14, 15, 16, 17, 18, 19, 20, 21, 22, 23, 24, 25, 26, 27, 28, 29, 30, 34, 35, 36, 37, 38, 39, 40, 41, 42, 43, 44, 45, 46, 47, 48, 49, 50, 51] (by decide +kernel) (by decide +kernel)
set_option maxRecDepth 20000 in
theorem gX6_strongest_X6_tripletNow : GoodIn wsX6_strongest (wsV RX6 199 RX6 yX6_tripletNow wsX6_tripletNow) := goodIn_app (goodIn_of _ (by decide +kernel)) ggX6_strongest_X6_tripletNow
set_option maxRecDepth 20000 in
theorem ggX6_strongest_X6_size : GoodIn wsX6_strongest wsX6_size := goodIn_r _ [33] (by decide +kernel) (by decide +kernel)
set_option maxRecDepth 20000 in
theorem gX6_strongest_X6_size : GoodIn wsX6_strongest (va_wsS RX6 153 yX6_size wsX6_size) := goodIn_app (goodIn_of _ (by decide +kernel)) ggX6_strongest_X6_size
theorem dX6_strongest_0 : decode cX6_strongest 0 = .ok (.lconst 0, 1) := by decide +kernel
theorem dX6_strongest_1 : decode cX6_strongest 1 = .ok (.lstore 4, 2) := by decide +kernel
theorem dX6_strongest_3 : decode cX6_strongest 3 = .ok (.iconst 0, 1) := by decide +kernel
theorem dX6_strongest_4 : decode cX6_strongest 4 = .ok (.istore 6, 2) := by decide +kernel
theorem dX6_strongest_6 : decode cX6_strongest 6 = .ok (.iload 6, 2) := by decide +kernel
theorem dX6_strongest_8 : decode cX6_strongest 8 = .ok (.iconst 3, 1) := by decide +kernel
theorem dX6_strongest_9 : decode cX6_strongest 9 = .ok (.if_icmp .ge 43, 3) := by decide +kernel
theorem dX6_strongest_12 : decode cX6_strongest 12 = .ok (.aload_n 0, 1) := by decide +kernel
theorem dX6_strongest_13 : decode cX6_strongest 13 = .ok (.iload_n 1, 1) := by decide +kernel
theorem dX6_strongest_14 : decode cX6_strongest 14 = .ok (.iload_n 2, 1) := by decide +kernel
theorem dX6_strongest_15 : decode cX6_strongest 15 = .ok (.iload_n 3, 1) := by decide +kernel
theorem dX6_strongest_16 : decode cX6_strongest 16 = .ok (.sipush 10000, 3) := by decide +kernel
theorem dX6_strongest_19 : decode cX6_strongest 19 = .ok (.iload 6, 2) := by decide +kernel
theorem dX6_strongest_21 : decode cX6_strongest 21 = .ok (.invokevirtual 199, 3) := by decide +kernel
theorem dX6_strongest_24 : decode cX6_strongest 24 = .ok (.invokestatic 153, 3) := by decide +kernel
theorem dX6_strongest_27 : decode cX6_strongest 27 = .ok (.lstore 7, 2) := by decide +kernel
theorem dX6_strongest_29 : decode cX6_strongest 29 = .ok (.lload 7, 2) := by decide +kernel
theorem dX6_strongest_31 : decode cX6_strongest 31 = .ok (.lload 4, 2) := by decide +kernel
theorem dX6_strongest_33 : decode cX6_strongest 33 = .ok (.lcmp, 1) := by decide +kernel
theorem dX6_strongest_34 : decode cX6_strongest 34 = .ok (.ifCond .le 8, 3) := by decide +kernel
theorem dX6_strongest_37 : decode cX6_strongest 37 = .ok (.lload 7, 2) := by decide +kernel
theorem dX6_strongest_39 : decode cX6_strongest 39 = .ok (.goto 5, 3) := by decide +kernel
theorem dX6_strongest_42 : decode cX6_strongest 42 = .ok (.lload 4, 2) := by decide +kernel
theorem dX6_strongest_44 : decode cX6_strongest 44 = .ok (.lstore 4, 2) := by decide +kernel
theorem dX6_strongest_46 : decode cX6_strongest 46 = .ok (.iinc 6 1, 3) := by decide +kernel
theorem dX6_strongest_49 : decode cX6_strongest 49 = .ok (.goto (-43), 3) := by decide +kernel
theorem dX6_strongest_52 : decode cX6_strongest 52 = .ok (.lload 4, 2) := by decide +kernel
theorem dX6_strongest_54 : decode cX6_strongest 54 = .ok (.lreturn, 1) := by decide +kernel
set_option maxRecDepth 20000 in
theorem ggX6_tripletBest_X6_t : GoodIn wsX6_tripletBest wsX6_t := goodIn_r _ [10, 11, 12, 13, 9, 14, 15, 16, 17, 18, 19, 20, 21, 22, 23, 24, 25, 26, 27, 28, 43, 44, 45, 46, 47, 48, 49, 50, 51, 52, 53, 54, 55, 56, 57, 58, 59, 60] (by decide +kernel) (by decide +kernel)
set_option maxRecDepth 20000 in
theorem gX6_tripletBest_X6_t : GoodIn wsX6_tripletBest (wsV RX6 195 RX6 yX6_t wsX6_t) := goodIn_app (goodIn_of _ (by decide +kernel)) ggX6_tripletBest_X6_t
set_option maxRecDepth 20000 in
theorem ggX6_tripletBest_X6_strongest : GoodIn wsX6_tripletBest wsX6_strongest := goodIn_r _ [32, 33, 34, 35, 9, 36, 11, 12, 13, 14, 15, 16, 17, 18, 19, 20, 21, 22, 23, 24, 25, 26, 27, 28, 6, 7, 8, 10, 37, 38, 39, 40, 41, 42, 43, 44, 45, 46, 47, 48, 49, 50, 51, 52, 53, 54, 55, 56, 57, 58, 59, 60] (by decide +kernel) (by decide +kernel)
set_option maxRecDepth 20000 in
theorem gX6_tripletBest_X6_strongest : GoodIn wsX6_tripletBest (wsV RX6 205 RX6 yX6_strongest wsX6_strongest) := goodIn_app (goodIn_of _ (by decide +kernel)) ggX6_tripletBest_X6_strongest
theorem dX6_tripletBest_0 : decode cX6_tripletBest 0 = .ok (.ldc2_w 134, 3) := by decide +kernel
theorem dX6_tripletBest_3 : decode cX6_tripletBest 3 = .ok (.lstore_n 1, 1) := by decide +kernel
theorem dX6_tripletBest_4 : decode cX6_tripletBest 4 = .ok (.lconst 0, 1) := by decide +kernel
theorem dX6_tripletBest_5 : decode cX6_tripletBest 5 = .ok (.lstore_n 3, 1) := by decide +kernel
theorem dX6_tripletBest_6 : decode cX6_tripletBest 6 = .ok (.iconst 0, 1) := by decide +kernel
theorem dX6_tripletBest_7 : decode cX6_tripletBest 7 = .ok (.istore 5, 2) := by decide +kernel
theorem dX6_tripletBest_9 : decode cX6_tripletBest 9 = .ok (.iload 5, 2) := by decide +kernel
theorem dX6_tripletBest_11 : decode cX6_tripletBest 11 = .ok (.aload_n 0, 1) := by decide +kernel
theorem dX6_tripletBest_12 : decode cX6_tripletBest 12 = .ok (.getfield 35, 3) := by decide +kernel
theorem dX6_tripletBest_15 : decode cX6_tripletBest 15 = .ok (.if_icmp .ge 154, 3) := by decide +kernel
theorem dX6_tripletBest_18 : decode cX6_tripletBest 18 = .ok (.iload 5, 2) := by decide +kernel
theorem dX6_tripletBest_20 : decode cX6_tripletBest 20 = .ok (.iconst 1, 1) := by decide +kernel
theorem dX6_tripletBest_21 : decode cX6_tripletBest 21 = .ok (.iadd, 1) := by decide +kernel
theorem dX6_tripletBest_22 : decode cX6_tripletBest 22 = .ok (.istore 6, 2) := by decide +kernel
theorem dX6_tripletBest_24 : decode cX6_tripletBest 24 = .ok (.iload 6, 2) := by decide +kernel
theorem dX6_tripletBest_26 : decode cX6_tripletBest 26 = .ok (.aload_n 0, 1) := by decide +kernel
theorem dX6_tripletBest_27 : decode cX6_tripletBest 27 = .ok (.getfield 35, 3) := by decide +kernel
theorem dX6_tripletBest_30 : decode cX6_tripletBest 30 = .ok (.if_icmp .ge 133, 3) := by decide +kernel
theorem dX6_tripletBest_33 : decode cX6_tripletBest 33 = .ok (.iload 6, 2) := by decide +kernel
theorem dX6_tripletBest_35 : decode cX6_tripletBest 35 = .ok (.iconst 1, 1) := by decide +kernel
theorem dX6_tripletBest_36 : decode cX6_tripletBest 36 = .ok (.iadd, 1) := by decide +kernel
theorem dX6_tripletBest_37 : decode cX6_tripletBest 37 = .ok (.istore 7, 2) := by decide +kernel
theorem dX6_tripletBest_39 : decode cX6_tripletBest 39 = .ok (.iload 7, 2) := by decide +kernel
theorem dX6_tripletBest_41 : decode cX6_tripletBest 41 = .ok (.aload_n 0, 1) := by decide +kernel
theorem dX6_tripletBest_42 : decode cX6_tripletBest 42 = .ok (.getfield 35, 3) := by decide +kernel
theorem dX6_tripletBest_45 : decode cX6_tripletBest 45 = .ok (.if_icmp .ge 112, 3) := by decide +kernel
theorem dX6_tripletBest_48 : decode cX6_tripletBest 48 = .ok (.aload_n 0, 1) := by decide +kernel
theorem dX6_tripletBest_49 : decode cX6_tripletBest 49 = .ok (.iload 5, 2) := by decide +kernel
theorem dX6_tripletBest_51 : decode cX6_tripletBest 51 = .ok (.iload 6, 2) := by decide +kernel
theorem dX6_tripletBest_53 : decode cX6_tripletBest 53 = .ok (.iload 7, 2) := by decide +kernel
theorem dX6_tripletBest_55 : decode cX6_tripletBest 55 = .ok (.invokevirtual 195, 3) := by decide +kernel
theorem dX6_tripletBest_58 : decode cX6_tripletBest 58 = .ok (.lconst 0, 1) := by decide +kernel
theorem dX6_tripletBest_59 : decode cX6_tripletBest 59 = .ok (.lcmp, 1) := by decide +kernel
theorem dX6_tripletBest_60 : decode cX6_tripletBest 60 = .ok (.ifCond .ne 9, 3) := by decide +kernel
theorem dX6_tripletBest_63 : decode cX6_tripletBest 63 = .ok (.ldc2_w 203, 3) := by decide +kernel
theorem dX6_tripletBest_66 : decode cX6_tripletBest 66 = .ok (.goto 13, 3) := by decide +kernel
theorem dX6_tripletBest_69 : decode cX6_tripletBest 69 = .ok (.aload_n 0, 1) := by decide +kernel
theorem dX6_tripletBest_70 : decode cX6_tripletBest 70 = .ok (.iload 5, 2) := by decide +kernel
theorem dX6_tripletBest_72 : decode cX6_tripletBest 72 = .ok (.iload 6, 2) := by decide +kernel
theorem dX6_tripletBest_74 : decode cX6_tripletBest 74 = .ok (.iload 7, 2) := by decide +kernel
theorem dX6_tripletBest_76 : decode cX6_tripletBest 76 = .ok (.invokevirtual 205, 3) := by decide +kernel
theorem dX6_tripletBest_79 : decode cX6_tripletBest 79 = .ok (.lstore 8, 2) := by decide +kernel
theorem dX6_tripletBest_81 : decode cX6_tripletBest 81 = .ok (.lload 8, 2) := by decide +kernel
theorem dX6_tripletBest_83 : decode cX6_tripletBest 83 = .ok (.lconst 0, 1) := by decide +kernel
theorem dX6_tripletBest_84 : decode cX6_tripletBest 84 = .ok (.lcmp, 1) := by decide +kernel
theorem dX6_tripletBest_85 : decode cX6_tripletBest 85 = .ok (.ifCond .lt 22, 3) := by decide +kernel
theorem dX6_tripletBest_88 : decode cX6_tripletBest 88 = .ok (.lload_n 1, 1) := by decide +kernel
theorem dX6_tripletBest_89 : decode cX6_tripletBest 89 = .ok (.ldc2_w 134, 3) := by decide +kernel
theorem dX6_tripletBest_92 : decode cX6_tripletBest 92 = .ok (.lcmp, 1) := by decide +kernel
theorem dX6_tripletBest_93 : decode cX6_tripletBest 93 = .ok (.ifCond .eq 10, 3) := by decide +kernel
theorem dX6_tripletBest_96 : decode cX6_tripletBest 96 = .ok (.lload 8, 2) := by decide +kernel
theorem dX6_tripletBest_98 : decode cX6_tripletBest 98 = .ok (.lload_n 3, 1) := by decide +kernel
theorem dX6_tripletBest_99 : decode cX6_tripletBest 99 = .ok (.lcmp, 1) := by decide +kernel
theorem dX6_tripletBest_100 : decode cX6_tripletBest 100 = .ok (.ifCond .ge 7, 3) := by decide +kernel
theorem dX6_tripletBest_103 : decode cX6_tripletBest 103 = .ok (.iconst 1, 1) := by decide +kernel
theorem dX6_tripletBest_104 : decode cX6_tripletBest 104 = .ok (.goto 4, 3) := by decide +kernel
theorem dX6_tripletBest_107 : decode cX6_tripletBest 107 = .ok (.iconst 0, 1) := by decide +kernel
theorem dX6_tripletBest_108 : decode cX6_tripletBest 108 = .ok (.istore 10, 2) := by decide +kernel
theorem dX6_tripletBest_110 : decode cX6_tripletBest 110 = .ok (.iload 10, 2) := by decide +kernel
theorem dX6_tripletBest_112 : decode cX6_tripletBest 112 = .ok (.ifCond .eq 25, 3) := by decide +kernel
theorem dX6_tripletBest_115 : decode cX6_tripletBest 115 = .ok (.ldc2_w 138, 3) := by decide +kernel
theorem dX6_tripletBest_118 : decode cX6_tripletBest 118 = .ok (.iload 5, 2) := by decide +kernel
theorem dX6_tripletBest_120 : decode cX6_tripletBest 120 = .ok (.i2l, 1) := by decide +kernel
theorem dX6_tripletBest_121 : decode cX6_tripletBest 121 = .ok (.lmul, 1) := by decide +kernel
theorem dX6_tripletBest_122 : decode cX6_tripletBest 122 = .ok (.ldc2_w 186, 3) := by decide +kernel
theorem dX6_tripletBest_125 : decode cX6_tripletBest 125 = .ok (.iload 6, 2) := by decide +kernel
theorem dX6_tripletBest_127 : decode cX6_tripletBest 127 = .ok (.i2l, 1) := by decide +kernel
theorem dX6_tripletBest_128 : decode cX6_tripletBest 128 = .ok (.lmul, 1) := by decide +kernel
theorem dX6_tripletBest_129 : decode cX6_tripletBest 129 = .ok (.ladd, 1) := by decide +kernel
theorem dX6_tripletBest_130 : decode cX6_tripletBest 130 = .ok (.iload 7, 2) := by decide +kernel
theorem dX6_tripletBest_132 : decode cX6_tripletBest 132 = .ok (.i2l, 1) := by decide +kernel
theorem dX6_tripletBest_133 : decode cX6_tripletBest 133 = .ok (.ladd, 1) := by decide +kernel
theorem dX6_tripletBest_134 : decode cX6_tripletBest 134 = .ok (.goto 4, 3) := by decide +kernel
theorem dX6_tripletBest_137 : decode cX6_tripletBest 137 = .ok (.lload_n 1, 1) := by decide +kernel
theorem dX6_tripletBest_138 : decode cX6_tripletBest 138 = .ok (.lstore_n 1, 1) := by decide +kernel
theorem dX6_tripletBest_139 : decode cX6_tripletBest 139 = .ok (.iload 10, 2) := by decide +kernel
theorem dX6_tripletBest_141 : decode cX6_tripletBest 141 = .ok (.ifCond .eq 8, 3) := by decide +kernel
theorem dX6_tripletBest_144 : decode cX6_tripletBest 144 = .ok (.lload 8, 2) := by decide +kernel
theorem dX6_tripletBest_146 : decode cX6_tripletBest 146 = .ok (.goto 4, 3) := by decide +kernel
theorem dX6_tripletBest_149 : decode cX6_tripletBest 149 = .ok (.lload_n 3, 1) := by decide +kernel
theorem dX6_tripletBest_150 : decode cX6_tripletBest 150 = .ok (.lstore_n 3, 1) := by decide +kernel
theorem dX6_tripletBest_151 : decode cX6_tripletBest 151 = .ok (.iinc 7 1, 3) := by decide +kernel
theorem dX6_tripletBest_154 : decode cX6_tripletBest 154 = .ok (.goto (-115), 3) := by decide +kernel
theorem dX6_tripletBest_157 : decode cX6_tripletBest 157 = .ok (.iinc 6 1, 3) := by decide +kernel
theorem dX6_tripletBest_160 : decode cX6_tripletBest 160 = .ok (.goto (-136), 3) := by decide +kernel
theorem dX6_tripletBest_163 : decode cX6_tripletBest 163 = .ok (.iinc 5 1, 3) := by decide +kernel
theorem dX6_tripletBest_166 : decode cX6_tripletBest 166 = .ok (.goto (-157), 3) := by decide +kernel
theorem dX6_tripletBest_169 : decode cX6_tripletBest 169 = .ok (.lload_n 1, 1) := by decide +kernel
theorem dX6_tripletBest_170 : decode cX6_tripletBest 170 = .ok (.lreturn, 1) := by decide +kernel
set_option maxRecDepth 20000 in
theorem ggX6_bestTriplet_X6_tripletBest : GoodIn wsX6_bestTriplet wsX6_tripletBest := goodIn_r _ [5, 6, 7, 8, 9, 10, 11, 12, 13, 4, 14, 15, 16, 17, 18, 19, 20, 21, 22, 23, 24, 25, 26, 27, 28, 29, 30, 31, 32, 33, 34, 35, 36, 37, 38, 39, 40, 41, 42, 43, 44, 45, 46, 47, 48, 49, 50, 51, 52, 53, 54, 55, 56, 57, 58, 59, 60, 61, 62, 63, 64] (by decide +kernel) (by decide +kernel)
set_option maxRecDepth 20000 in
theorem gX6_bestTriplet_X6_tripletBest : GoodIn wsX6_bestTriplet (wsV RX6 208 RX6 yX6_tripletBest wsX6_tripletBest) := goodIn_app (goodIn_of _ (by decide +kernel)) ggX6_bestTriplet_X6_tripletBest
theorem dX6_bestTriplet_0 : decode cX6_bestTriplet 0 = .ok (.aload_n 0, 1) := by decide +kernel
theorem dX6_bestTriplet_1 : decode cX6_bestTriplet 1 = .ok (.invokevirtual 208, 3) := by decide +kernel
theorem dX6_bestTriplet_4 : decode cX6_bestTriplet 4 = .ok (.lreturn, 1) := by decide +kernel
set_option maxRecDepth 20000 in
theorem ggX6_addLens_X6_isGlass : GoodIn wsX6_addLens wsX6_isGlass := goodIn_r _ [13, 14, 15, 16, 12, 17, 18, 19, 20, 21, 22, 23, 24, 25, 26, 27, 28, 29, 30, 31, 32, 33, 34, 35] (by decide +kernel) (by decide +kernel)
set_option maxRecDepth 20000 in
theorem gX6_addLens_X6_isGlass : GoodIn wsX6_addLens (wsV RX6 100 RX6 yX6_isGlass wsX6_isGlass) := goodIn_app (goodIn_of _ (by decide +kernel)) ggX6_addLens_X6_isGlass
set_option maxRecDepth 20000 in
theorem ggX6_addLens_X6_within : GoodIn wsX6_addLens wsX6_within := goodIn_r _ [17] (by decide +kernel) (by decide +kernel)
set_option maxRecDepth 20000 in
theorem gX6_addLens_X6_within : GoodIn wsX6_addLens (va_wsS RX6 39 yX6_within wsX6_within) := goodIn_app (goodIn_of _ (by decide +kernel)) ggX6_addLens_X6_within
theorem dX6_addLens_0 : decode cX6_addLens 0 = .ok (.aload_n 0, 1) := by decide +kernel
theorem dX6_addLens_1 : decode cX6_addLens 1 = .ok (.iload_n 1, 1) := by decide +kernel
theorem dX6_addLens_2 : decode cX6_addLens 2 = .ok (.invokevirtual 100, 3) := by decide +kernel
theorem dX6_addLens_5 : decode cX6_addLens 5 = .ok (.ifCond .ne 7, 3) := by decide +kernel
theorem dX6_addLens_8 : decode cX6_addLens 8 = .ok (.ldc2_w 104, 3) := by decide +kernel
theorem dX6_addLens_11 : decode cX6_addLens 11 = .ok (.lreturn, 1) := by decide +kernel
theorem dX6_addLens_12 : decode cX6_addLens 12 = .ok (.iload_n 2, 1) := by decide +kernel
theorem dX6_addLens_13 : decode cX6_addLens 13 = .ok (.i2l, 1) := by decide +kernel
theorem dX6_addLens_14 : decode cX6_addLens 14 = .ok (.ldc2_w 211, 3) := by decide +kernel
theorem dX6_addLens_17 : decode cX6_addLens 17 = .ok (.ldc2_w 213, 3) := by decide +kernel
theorem dX6_addLens_20 : decode cX6_addLens 20 = .ok (.invokestatic 39, 3) := by decide +kernel
theorem dX6_addLens_23 : decode cX6_addLens 23 = .ok (.ifCond .ne 7, 3) := by decide +kernel
theorem dX6_addLens_26 : decode cX6_addLens 26 = .ok (.ldc2_w 53, 3) := by decide +kernel
theorem dX6_addLens_29 : decode cX6_addLens 29 = .ok (.lreturn, 1) := by decide +kernel
theorem dX6_addLens_30 : decode cX6_addLens 30 = .ok (.aload_n 0, 1) := by decide +kernel
theorem dX6_addLens_31 : decode cX6_addLens 31 = .ok (.getfield 43, 3) := by decide +kernel
theorem dX6_addLens_34 : decode cX6_addLens 34 = .ok (.bipush 8, 2) := by decide +kernel
theorem dX6_addLens_36 : decode cX6_addLens 36 = .ok (.if_icmp .ne 7, 3) := by decide +kernel
theorem dX6_addLens_39 : decode cX6_addLens 39 = .ok (.ldc2_w 58, 3) := by decide +kernel
theorem dX6_addLens_42 : decode cX6_addLens 42 = .ok (.lreturn, 1) := by decide +kernel
theorem dX6_addLens_43 : decode cX6_addLens 43 = .ok (.aload_n 0, 1) := by decide +kernel
theorem dX6_addLens_44 : decode cX6_addLens 44 = .ok (.getfield 20, 3) := by decide +kernel
theorem dX6_addLens_47 : decode cX6_addLens 47 = .ok (.aload_n 0, 1) := by decide +kernel
theorem dX6_addLens_48 : decode cX6_addLens 48 = .ok (.getfield 43, 3) := by decide +kernel
theorem dX6_addLens_51 : decode cX6_addLens 51 = .ok (.iload_n 1, 1) := by decide +kernel
theorem dX6_addLens_52 : decode cX6_addLens 52 = .ok (.iastore, 1) := by decide +kernel
theorem dX6_addLens_53 : decode cX6_addLens 53 = .ok (.aload_n 0, 1) := by decide +kernel
theorem dX6_addLens_54 : decode cX6_addLens 54 = .ok (.getfield 23, 3) := by decide +kernel
theorem dX6_addLens_57 : decode cX6_addLens 57 = .ok (.aload_n 0, 1) := by decide +kernel
theorem dX6_addLens_58 : decode cX6_addLens 58 = .ok (.getfield 43, 3) := by decide +kernel
theorem dX6_addLens_61 : decode cX6_addLens 61 = .ok (.iload_n 2, 1) := by decide +kernel
theorem dX6_addLens_62 : decode cX6_addLens 62 = .ok (.iastore, 1) := by decide +kernel
theorem dX6_addLens_63 : decode cX6_addLens 63 = .ok (.aload_n 0, 1) := by decide +kernel
theorem dX6_addLens_64 : decode cX6_addLens 64 = .ok (.dup, 1) := by decide +kernel
theorem dX6_addLens_65 : decode cX6_addLens 65 = .ok (.getfield 43, 3) := by decide +kernel
theorem dX6_addLens_68 : decode cX6_addLens 68 = .ok (.iconst 1, 1) := by decide +kernel
theorem dX6_addLens_69 : decode cX6_addLens 69 = .ok (.iadd, 1) := by decide +kernel
theorem dX6_addLens_70 : decode cX6_addLens 70 = .ok (.putfield 43, 3) := by decide +kernel
theorem dX6_addLens_73 : decode cX6_addLens 73 = .ok (.aload_n 0, 1) := by decide +kernel
theorem dX6_addLens_74 : decode cX6_addLens 74 = .ok (.getfield 43, 3) := by decide +kernel
theorem dX6_addLens_77 : decode cX6_addLens 77 = .ok (.iconst 1, 1) := by decide +kernel
theorem dX6_addLens_78 : decode cX6_addLens 78 = .ok (.isub, 1) := by decide +kernel
theorem dX6_addLens_79 : decode cX6_addLens 79 = .ok (.i2l, 1) := by decide +kernel
theorem dX6_addLens_80 : decode cX6_addLens 80 = .ok (.lreturn, 1) := by decide +kernel
set_option maxRecDepth 20000 in
theorem ggX6_removeLens_X6_isLens : GoodIn wsX6_removeLens wsX6_isLens := goodIn_r _ [9, 2, 10, 11, 8, 12, 13, 14, 15, 16, 17, 18, 19, 20, 21, 22, 23, 24, 25, 26, 27, 28, 29, 30] (by decide +kernel) (by decide +kernel)
set_option maxRecDepth 20000 in
theorem gX6_removeLens_X6_isLens : GoodIn wsX6_removeLens (wsV RX6 215 RX6 yX6_isLens wsX6_isLens) := goodIn_app (goodIn_of _ (by decide +kernel)) ggX6_removeLens_X6_isLens
theorem dX6_removeLens_0 : decode cX6_removeLens 0 = .ok (.aload_n 0, 1) := by decide +kernel
theorem dX6_removeLens_1 : decode cX6_removeLens 1 = .ok (.iload_n 1, 1) := by decide +kernel
theorem dX6_removeLens_2 : decode cX6_removeLens 2 = .ok (.invokevirtual 215, 3) := by decide +kernel
theorem dX6_removeLens_5 : decode cX6_removeLens 5 = .ok (.ifCond .ne 7, 3) := by decide +kernel
theorem dX6_removeLens_8 : decode cX6_removeLens 8 = .ok (.ldc2_w 218, 3) := by decide +kernel
theorem dX6_removeLens_11 : decode cX6_removeLens 11 = .ok (.lreturn, 1) := by decide +kernel
theorem dX6_removeLens_12 : decode cX6_removeLens 12 = .ok (.aload_n 0, 1) := by decide +kernel
theorem dX6_removeLens_13 : decode cX6_removeLens 13 = .ok (.dup, 1) := by decide +kernel
theorem dX6_removeLens_14 : decode cX6_removeLens 14 = .ok (.getfield 43, 3) := by decide +kernel
theorem dX6_removeLens_17 : decode cX6_removeLens 17 = .ok (.iconst 1, 1) := by decide +kernel
theorem dX6_removeLens_18 : decode cX6_removeLens 18 = .ok (.isub, 1) := by decide +kernel
theorem dX6_removeLens_19 : decode cX6_removeLens 19 = .ok (.putfield 43, 3) := by decide +kernel
theorem dX6_removeLens_22 : decode cX6_removeLens 22 = .ok (.iload_n 1, 1) := by decide +kernel
theorem dX6_removeLens_23 : decode cX6_removeLens 23 = .ok (.istore_n 2, 1) := by decide +kernel
theorem dX6_removeLens_24 : decode cX6_removeLens 24 = .ok (.iload_n 2, 1) := by decide +kernel
theorem dX6_removeLens_25 : decode cX6_removeLens 25 = .ok (.aload_n 0, 1) := by decide +kernel
theorem dX6_removeLens_26 : decode cX6_removeLens 26 = .ok (.getfield 43, 3) := by decide +kernel
theorem dX6_removeLens_29 : decode cX6_removeLens 29 = .ok (.if_icmp .ge 37, 3) := by decide +kernel
theorem dX6_removeLens_32 : decode cX6_removeLens 32 = .ok (.aload_n 0, 1) := by decide +kernel
theorem dX6_removeLens_33 : decode cX6_removeLens 33 = .ok (.getfield 20, 3) := by decide +kernel
theorem dX6_removeLens_36 : decode cX6_removeLens 36 = .ok (.iload_n 2, 1) := by decide +kernel
theorem dX6_removeLens_37 : decode cX6_removeLens 37 = .ok (.aload_n 0, 1) := by decide +kernel
theorem dX6_removeLens_38 : decode cX6_removeLens 38 = .ok (.getfield 20, 3) := by decide +kernel
theorem dX6_removeLens_41 : decode cX6_removeLens 41 = .ok (.iload_n 2, 1) := by decide +kernel
theorem dX6_removeLens_42 : decode cX6_removeLens 42 = .ok (.iconst 1, 1) := by decide +kernel
theorem dX6_removeLens_43 : decode cX6_removeLens 43 = .ok (.iadd, 1) := by decide +kernel
theorem dX6_removeLens_44 : decode cX6_removeLens 44 = .ok (.iaload, 1) := by decide +kernel
theorem dX6_removeLens_45 : decode cX6_removeLens 45 = .ok (.iastore, 1) := by decide +kernel
theorem dX6_removeLens_46 : decode cX6_removeLens 46 = .ok (.aload_n 0, 1) := by decide +kernel
theorem dX6_removeLens_47 : decode cX6_removeLens 47 = .ok (.getfield 23, 3) := by decide +kernel
theorem dX6_removeLens_50 : decode cX6_removeLens 50 = .ok (.iload_n 2, 1) := by decide +kernel
theorem dX6_removeLens_51 : decode cX6_removeLens 51 = .ok (.aload_n 0, 1) := by decide +kernel
theorem dX6_removeLens_52 : decode cX6_removeLens 52 = .ok (.getfield 23, 3) := by decide +kernel
theorem dX6_removeLens_55 : decode cX6_removeLens 55 = .ok (.iload_n 2, 1) := by decide +kernel
theorem dX6_removeLens_56 : decode cX6_removeLens 56 = .ok (.iconst 1, 1) := by decide +kernel
theorem dX6_removeLens_57 : decode cX6_removeLens 57 = .ok (.iadd, 1) := by decide +kernel
theorem dX6_removeLens_58 : decode cX6_removeLens 58 = .ok (.iaload, 1) := by decide +kernel
theorem dX6_removeLens_59 : decode cX6_removeLens 59 = .ok (.iastore, 1) := by decide +kernel
theorem dX6_removeLens_60 : decode cX6_removeLens 60 = .ok (.iinc 2 1, 3) := by decide +kernel
theorem dX6_removeLens_63 : decode cX6_removeLens 63 = .ok (.goto (-39), 3) := by decide +kernel
theorem dX6_removeLens_66 : decode cX6_removeLens 66 = .ok (.aload_n 0, 1) := by decide +kernel
theorem dX6_removeLens_67 : decode cX6_removeLens 67 = .ok (.getfield 43, 3) := by decide +kernel
theorem dX6_removeLens_70 : decode cX6_removeLens 70 = .ok (.i2l, 1) := by decide +kernel
theorem dX6_removeLens_71 : decode cX6_removeLens 71 = .ok (.lreturn, 1) := by decide +kernel
theorem dX6_lensCount_0 : decode cX6_lensCount 0 = .ok (.aload_n 0, 1) := by decide +kernel
theorem dX6_lensCount_1 : decode cX6_lensCount 1 = .ok (.getfield 43, 3) := by decide +kernel
theorem dX6_lensCount_4 : decode cX6_lensCount 4 = .ok (.i2l, 1) := by decide +kernel
theorem dX6_lensCount_5 : decode cX6_lensCount 5 = .ok (.lreturn, 1) := by decide +kernel
set_option maxRecDepth 20000 in
theorem ggX6_lensPower_X6_a : GoodIn wsX6_lensPower wsX6_a := goodIn_r _ [10, 3, 4, 14, 15, 16, 17, 18, 19, 20, 21, 22, 23, 24, 25, 26, 27, 28, 29, 30, 31] (by decide +kernel) (by decide +kernel)
set_option maxRecDepth 20000 in
theorem gX6_lensPower_X6_a : GoodIn wsX6_lensPower (wsV RX6 117 RX6 yX6_a wsX6_a) := goodIn_app (goodIn_of _ (by decide +kernel)) ggX6_lensPower_X6_a
set_option maxRecDepth 20000 in
theorem ggX6_lensPower_X6_floor : GoodIn wsX6_lensPower wsX6_floor := goodIn_r _ [13] (by decide +kernel) (by decide +kernel)
set_option maxRecDepth 20000 in
theorem gX6_lensPower_X6_floor : GoodIn wsX6_lensPower (va_wsS RX6 144 yX6_floor wsX6_floor) := goodIn_app (goodIn_of _ (by decide +kernel)) ggX6_lensPower_X6_floor
theorem dX6_lensPower_0 : decode cX6_lensPower 0 = .ok (.aload_n 0, 1) := by decide +kernel
theorem dX6_lensPower_1 : decode cX6_lensPower 1 = .ok (.getfield 23, 3) := by decide +kernel
theorem dX6_lensPower_4 : decode cX6_lensPower 4 = .ok (.iload_n 1, 1) := by decide +kernel
theorem dX6_lensPower_5 : decode cX6_lensPower 5 = .ok (.iaload, 1) := by decide +kernel
theorem dX6_lensPower_6 : decode cX6_lensPower 6 = .ok (.i2l, 1) := by decide +kernel
theorem dX6_lensPower_7 : decode cX6_lensPower 7 = .ok (.ldc2_w 115, 3) := by decide +kernel
theorem dX6_lensPower_10 : decode cX6_lensPower 10 = .ok (.lmul, 1) := by decide +kernel
theorem dX6_lensPower_11 : decode cX6_lensPower 11 = .ok (.aload_n 0, 1) := by decide +kernel
theorem dX6_lensPower_12 : decode cX6_lensPower 12 = .ok (.getfield 17, 3) := by decide +kernel
theorem dX6_lensPower_15 : decode cX6_lensPower 15 = .ok (.iconst 3, 1) := by decide +kernel
theorem dX6_lensPower_16 : decode cX6_lensPower 16 = .ok (.iload_n 2, 1) := by decide +kernel
theorem dX6_lensPower_17 : decode cX6_lensPower 17 = .ok (.imul, 1) := by decide +kernel
theorem dX6_lensPower_18 : decode cX6_lensPower 18 = .ok (.iload_n 3, 1) := by decide +kernel
theorem dX6_lensPower_19 : decode cX6_lensPower 19 = .ok (.iadd, 1) := by decide +kernel
theorem dX6_lensPower_20 : decode cX6_lensPower 20 = .ok (.iaload, 1) := by decide +kernel
theorem dX6_lensPower_21 : decode cX6_lensPower 21 = .ok (.ldc 48, 2) := by decide +kernel
theorem dX6_lensPower_23 : decode cX6_lensPower 23 = .ok (.isub, 1) := by decide +kernel
theorem dX6_lensPower_24 : decode cX6_lensPower 24 = .ok (.i2l, 1) := by decide +kernel
theorem dX6_lensPower_25 : decode cX6_lensPower 25 = .ok (.lmul, 1) := by decide +kernel
theorem dX6_lensPower_26 : decode cX6_lensPower 26 = .ok (.aload_n 0, 1) := by decide +kernel
theorem dX6_lensPower_27 : decode cX6_lensPower 27 = .ok (.aload_n 0, 1) := by decide +kernel
theorem dX6_lensPower_28 : decode cX6_lensPower 28 = .ok (.getfield 20, 3) := by decide +kernel
theorem dX6_lensPower_31 : decode cX6_lensPower 31 = .ok (.iload_n 1, 1) := by decide +kernel
theorem dX6_lensPower_32 : decode cX6_lensPower 32 = .ok (.iaload, 1) := by decide +kernel
theorem dX6_lensPower_33 : decode cX6_lensPower 33 = .ok (.invokevirtual 117, 3) := by decide +kernel
theorem dX6_lensPower_36 : decode cX6_lensPower 36 = .ok (.invokestatic 144, 3) := by decide +kernel
theorem dX6_lensPower_39 : decode cX6_lensPower 39 = .ok (.lreturn, 1) := by decide +kernel
set_option maxRecDepth 20000 in
theorem ggX6_systemNow_X6_lensPower : GoodIn wsX6_systemNow wsX6_lensPower := goodIn_r _ [7, 8, 9, 10, 11, 2, 12, 13, 14, 6, 15, 16, 17, 18, 19, 20, 21, 22, 23, 24, 25, 26, 27, 28, 29, 30, 31, 32, 33, 34, 35, 36] (by decide +kernel) (by decide +kernel)
set_option maxRecDepth 20000 in
theorem gX6_systemNow_X6_lensPower : GoodIn wsX6_systemNow (wsV RX6 220 RX6 yX6_lensPower wsX6_lensPower) := goodIn_app (goodIn_of _ (by decide +kernel)) ggX6_systemNow_X6_lensPower
theorem dX6_systemNow_0 : decode cX6_systemNow 0 = .ok (.lconst 0, 1) := by decide +kernel
theorem dX6_systemNow_1 : decode cX6_systemNow 1 = .ok (.lstore_n 2, 1) := by decide +kernel
theorem dX6_systemNow_2 : decode cX6_systemNow 2 = .ok (.iconst 0, 1) := by decide +kernel
theorem dX6_systemNow_3 : decode cX6_systemNow 3 = .ok (.istore 4, 2) := by decide +kernel
theorem dX6_systemNow_5 : decode cX6_systemNow 5 = .ok (.iload 4, 2) := by decide +kernel
theorem dX6_systemNow_7 : decode cX6_systemNow 7 = .ok (.aload_n 0, 1) := by decide +kernel
theorem dX6_systemNow_8 : decode cX6_systemNow 8 = .ok (.getfield 43, 3) := by decide +kernel
theorem dX6_systemNow_11 : decode cX6_systemNow 11 = .ok (.if_icmp .ge 26, 3) := by decide +kernel
theorem dX6_systemNow_14 : decode cX6_systemNow 14 = .ok (.lload_n 2, 1) := by decide +kernel
theorem dX6_systemNow_15 : decode cX6_systemNow 15 = .ok (.aload_n 0, 1) := by decide +kernel
theorem dX6_systemNow_16 : decode cX6_systemNow 16 = .ok (.iload 4, 2) := by decide +kernel
theorem dX6_systemNow_18 : decode cX6_systemNow 18 = .ok (.aload_n 0, 1) := by decide +kernel
theorem dX6_systemNow_19 : decode cX6_systemNow 19 = .ok (.getfield 20, 3) := by decide +kernel
theorem dX6_systemNow_22 : decode cX6_systemNow 22 = .ok (.iload 4, 2) := by decide +kernel
theorem dX6_systemNow_24 : decode cX6_systemNow 24 = .ok (.iaload, 1) := by decide +kernel
theorem dX6_systemNow_25 : decode cX6_systemNow 25 = .ok (.iload_n 1, 1) := by decide +kernel
theorem dX6_systemNow_26 : decode cX6_systemNow 26 = .ok (.invokevirtual 220, 3) := by decide +kernel
theorem dX6_systemNow_29 : decode cX6_systemNow 29 = .ok (.ladd, 1) := by decide +kernel
theorem dX6_systemNow_30 : decode cX6_systemNow 30 = .ok (.lstore_n 2, 1) := by decide +kernel
theorem dX6_systemNow_31 : decode cX6_systemNow 31 = .ok (.iinc 4 1, 3) := by decide +kernel
theorem dX6_systemNow_34 : decode cX6_systemNow 34 = .ok (.goto (-29), 3) := by decide +kernel
theorem dX6_systemNow_37 : decode cX6_systemNow 37 = .ok (.lload_n 2, 1) := by decide +kernel
theorem dX6_systemNow_38 : decode cX6_systemNow 38 = .ok (.lreturn, 1) := by decide +kernel
set_option maxRecDepth 20000 in
theorem ggX6_systemPower_X6_isColour : GoodIn wsX6_systemPower wsX6_isColour := goodIn_r _ [5, 6, 7, 8, 4, 9] (by decide +kernel) (by decide +kernel)
set_option maxRecDepth 20000 in
theorem gX6_systemPower_X6_isColour : GoodIn wsX6_systemPower (va_wsS RX6 108 yX6_isColour wsX6_isColour) := goodIn_app (goodIn_of _ (by decide +kernel)) ggX6_systemPower_X6_isColour
set_option maxRecDepth 20000 in
theorem ggX6_systemPower_X6_systemNow : GoodIn wsX6_systemPower wsX6_systemNow := goodIn_r _ [13, 14, 15, 16, 17, 18, 4, 19, 20, 21, 22, 23, 24, 25, 26, 27, 28, 29, 30, 31, 32, 33, 34, 35, 36, 37, 38, 39, 40, 41, 42, 43, 44, 45, 46, 47, 48] (by decide +kernel) (by decide +kernel)
set_option maxRecDepth 20000 in
theorem gX6_systemPower_X6_systemNow : GoodIn wsX6_systemPower (wsV RX6 223 RX6 yX6_systemNow wsX6_systemNow) := goodIn_app (goodIn_of _ (by decide +kernel)) ggX6_systemPower_X6_systemNow
theorem dX6_systemPower_0 : decode cX6_systemPower 0 = .ok (.iload_n 1, 1) := by decide +kernel
theorem dX6_systemPower_1 : decode cX6_systemPower 1 = .ok (.invokestatic 108, 3) := by decide +kernel
theorem dX6_systemPower_4 : decode cX6_systemPower 4 = .ok (.ifCond .eq 11, 3) := by decide +kernel
theorem dX6_systemPower_7 : decode cX6_systemPower 7 = .ok (.aload_n 0, 1) := by decide +kernel
theorem dX6_systemPower_8 : decode cX6_systemPower 8 = .ok (.iload_n 1, 1) := by decide +kernel
theorem dX6_systemPower_9 : decode cX6_systemPower 9 = .ok (.invokevirtual 223, 3) := by decide +kernel
theorem dX6_systemPower_12 : decode cX6_systemPower 12 = .ok (.goto 6, 3) := by decide +kernel
theorem dX6_systemPower_15 : decode cX6_systemPower 15 = .ok (.ldc2_w 53, 3) := by decide +kernel
theorem dX6_systemPower_18 : decode cX6_systemPower 18 = .ok (.lreturn, 1) := by decide +kernel
set_option maxRecDepth 20000 in
theorem ggX6_balanceNow_X6_systemNow : GoodIn wsX6_balanceNow wsX6_systemNow := goodIn_r _ [6, 7, 8, 9, 10, 11, 5, 12, 13, 1, 14, 15, 16, 17, 18, 19, 20, 21, 22, 27, 28, 29, 30, 31, 32, 33, 34, 35, 36, 37, 38, 39, 40, 41, 42, 43, 44] (by decide +kernel) (by decide +kernel)
set_option maxRecDepth 20000 in
theorem gX6_balanceNow_X6_systemNow : GoodIn wsX6_balanceNow (wsV RX6 223 RX6 yX6_systemNow wsX6_systemNow) := goodIn_app (goodIn_of _ (by decide +kernel)) ggX6_balanceNow_X6_systemNow
set_option maxRecDepth 20000 in
theorem ggX6_balanceNow_X6_a : GoodIn wsX6_balanceNow wsX6_a := goodIn_r _ [19, 14, 15, 27, 28, 29, 30, 31, 32, 33, 34, 35, 36, 37, 38, 39, 40, 41, 42, 43, 44] (by decide +kernel) (by decide +kernel)
set_option maxRecDepth 20000 in
theorem gX6_balanceNow_X6_a : GoodIn wsX6_balanceNow (wsV RX6 117 RX6 yX6_a wsX6_a) := goodIn_app (goodIn_of _ (by decide +kernel)) ggX6_balanceNow_X6_a
set_option maxRecDepth 20000 in
theorem ggX6_balanceNow_X6_b : GoodIn wsX6_balanceNow wsX6_b := goodIn_r _ [26, 14, 27, 28, 29, 30, 31, 32, 33, 34, 35, 36, 37, 38, 39, 40, 41, 42, 43, 44] (by decide +kernel) (by decide +kernel)
set_option maxRecDepth 20000 in
theorem gX6_balanceNow_X6_b : GoodIn wsX6_balanceNow (wsV RX6 120 RX6 yX6_b wsX6_b) := goodIn_app (goodIn_of _ (by decide +kernel)) ggX6_balanceNow_X6_b
set_option maxRecDepth 20000 in
theorem ggX6_balanceNow_X6_floor : GoodIn wsX6_balanceNow wsX6_floor := goodIn_r _ [22] (by decide +kernel) (by decide +kernel)
set_option maxRecDepth 20000 in
theorem gX6_balanceNow_X6_floor : GoodIn wsX6_balanceNow (va_wsS RX6 144 yX6_floor wsX6_floor) := goodIn_app (goodIn_of _ (by decide +kernel)) ggX6_balanceNow_X6_floor
theorem dX6_balanceNow_0 : decode cX6_balanceNow 0 = .ok (.aload_n 0, 1) := by decide +kernel
theorem dX6_balanceNow_1 : decode cX6_balanceNow 1 = .ok (.iconst 0, 1) := by decide +kernel
theorem dX6_balanceNow_2 : decode cX6_balanceNow 2 = .ok (.invokevirtual 223, 3) := by decide +kernel
theorem dX6_balanceNow_5 : decode cX6_balanceNow 5 = .ok (.aload_n 0, 1) := by decide +kernel
theorem dX6_balanceNow_6 : decode cX6_balanceNow 6 = .ok (.iconst 2, 1) := by decide +kernel
theorem dX6_balanceNow_7 : decode cX6_balanceNow 7 = .ok (.invokevirtual 223, 3) := by decide +kernel
theorem dX6_balanceNow_10 : decode cX6_balanceNow 10 = .ok (.lsub, 1) := by decide +kernel
theorem dX6_balanceNow_11 : decode cX6_balanceNow 11 = .ok (.lstore_n 2, 1) := by decide +kernel
theorem dX6_balanceNow_12 : decode cX6_balanceNow 12 = .ok (.lload_n 2, 1) := by decide +kernel
theorem dX6_balanceNow_13 : decode cX6_balanceNow 13 = .ok (.lneg, 1) := by decide +kernel
theorem dX6_balanceNow_14 : decode cX6_balanceNow 14 = .ok (.aload_n 0, 1) := by decide +kernel
theorem dX6_balanceNow_15 : decode cX6_balanceNow 15 = .ok (.iload_n 1, 1) := by decide +kernel
theorem dX6_balanceNow_16 : decode cX6_balanceNow 16 = .ok (.invokevirtual 117, 3) := by decide +kernel
theorem dX6_balanceNow_19 : decode cX6_balanceNow 19 = .ok (.lmul, 1) := by decide +kernel
theorem dX6_balanceNow_20 : decode cX6_balanceNow 20 = .ok (.ldc2_w 115, 3) := by decide +kernel
theorem dX6_balanceNow_23 : decode cX6_balanceNow 23 = .ok (.aload_n 0, 1) := by decide +kernel
theorem dX6_balanceNow_24 : decode cX6_balanceNow 24 = .ok (.iload_n 1, 1) := by decide +kernel
theorem dX6_balanceNow_25 : decode cX6_balanceNow 25 = .ok (.invokevirtual 120, 3) := by decide +kernel
theorem dX6_balanceNow_28 : decode cX6_balanceNow 28 = .ok (.lmul, 1) := by decide +kernel
theorem dX6_balanceNow_29 : decode cX6_balanceNow 29 = .ok (.invokestatic 144, 3) := by decide +kernel
theorem dX6_balanceNow_32 : decode cX6_balanceNow 32 = .ok (.lreturn, 1) := by decide +kernel
set_option maxRecDepth 20000 in
theorem ggX6_balancePower_X6_isGlass : GoodIn wsX6_balancePower wsX6_isGlass := goodIn_r _ [6, 7, 8, 9, 5, 10, 40, 41, 42, 43, 44, 45, 46, 47, 48, 49, 50, 51, 52, 53, 54, 55, 56, 57] (by decide +kernel) (by decide +kernel)
set_option maxRecDepth 20000 in
theorem gX6_balancePower_X6_isGlass : GoodIn wsX6_balancePower (wsV RX6 100 RX6 yX6_isGlass wsX6_isGlass) := goodIn_app (goodIn_of _ (by decide +kernel)) ggX6_balancePower_X6_isGlass
set_option maxRecDepth 20000 in
theorem ggX6_balancePower_X6_balanceNow : GoodIn wsX6_balancePower wsX6_balanceNow := goodIn_r _ [14, 15, 16, 17, 18, 5, 19, 20, 21, 22, 23, 24, 25, 26, 27, 28, 29, 30, 31, 32, 33, 34, 35, 36, 37, 38, 39, 40, 41, 42, 43, 44, 45, 46, 47, 48, 49, 50, 51, 52, 53, 54, 55, 56, 57] (by decide +kernel) (by decide +kernel)
set_option maxRecDepth 20000 in
theorem gX6_balancePower_X6_balanceNow : GoodIn wsX6_balancePower (wsV RX6 226 RX6 yX6_balanceNow wsX6_balanceNow) := goodIn_app (goodIn_of _ (by decide +kernel)) ggX6_balancePower_X6_balanceNow
theorem dX6_balancePower_0 : decode cX6_balancePower 0 = .ok (.aload_n 0, 1) := by decide +kernel
theorem dX6_balancePower_1 : decode cX6_balancePower 1 = .ok (.iload_n 1, 1) := by decide +kernel
theorem dX6_balancePower_2 : decode cX6_balancePower 2 = .ok (.invokevirtual 100, 3) := by decide +kernel
theorem dX6_balancePower_5 : decode cX6_balancePower 5 = .ok (.ifCond .eq 11, 3) := by decide +kernel
theorem dX6_balancePower_8 : decode cX6_balancePower 8 = .ok (.aload_n 0, 1) := by decide +kernel
theorem dX6_balancePower_9 : decode cX6_balancePower 9 = .ok (.iload_n 1, 1) := by decide +kernel
theorem dX6_balancePower_10 : decode cX6_balancePower 10 = .ok (.invokevirtual 226, 3) := by decide +kernel
theorem dX6_balancePower_13 : decode cX6_balancePower 13 = .ok (.goto 6, 3) := by decide +kernel
theorem dX6_balancePower_16 : decode cX6_balancePower 16 = .ok (.ldc2_w 104, 3) := by decide +kernel
theorem dX6_balancePower_19 : decode cX6_balancePower 19 = .ok (.lreturn, 1) := by decide +kernel
set_option maxRecDepth 20000 in
theorem ggX6_miss_X6_systemNow : GoodIn wsX6_miss wsX6_systemNow := goodIn_r _ [7, 8, 1, 9, 10, 11, 6, 12, 13, 14, 15, 16, 17, 18, 19, 20, 21, 22, 23, 27, 28, 29, 30, 31, 32, 33, 34, 35, 36, 37, 38, 39, 40, 41, 42, 43, 44] (by decide +kernel) (by decide +kernel)
set_option maxRecDepth 20000 in
theorem gX6_miss_X6_systemNow : GoodIn wsX6_miss (wsV RX6 223 RX6 yX6_systemNow wsX6_systemNow) := goodIn_app (goodIn_of _ (by decide +kernel)) ggX6_miss_X6_systemNow
set_option maxRecDepth 20000 in
theorem ggX6_miss_X6_lensPower : GoodIn wsX6_miss wsX6_lensPower := goodIn_r _ [12, 13, 14, 15, 16, 1, 17, 18, 19, 6, 20, 21, 22, 23, 27, 28, 29, 30, 31, 32, 33, 34, 35, 36, 37, 38, 39, 40, 41, 42, 43, 44] (by decide +kernel) (by decide +kernel)
set_option maxRecDepth 20000 in
theorem gX6_miss_X6_lensPower : GoodIn wsX6_miss (wsV RX6 220 RX6 yX6_lensPower wsX6_lensPower) := goodIn_app (goodIn_of _ (by decide +kernel)) ggX6_miss_X6_lensPower
set_option maxRecDepth 20000 in
theorem ggX6_miss_X6_size : GoodIn wsX6_miss wsX6_size := goodIn_r _ [26] (by decide +kernel) (by decide +kernel)
set_option maxRecDepth 20000 in
theorem gX6_miss_X6_size : GoodIn wsX6_miss (va_wsS RX6 153 yX6_size wsX6_size) := goodIn_app (goodIn_of _ (by decide +kernel)) ggX6_miss_X6_size
theorem dX6_miss_0 : decode cX6_miss 0 = .ok (.lconst 0, 1) := by decide +kernel
theorem dX6_miss_1 : decode cX6_miss 1 = .ok (.lstore_n 3, 1) := by decide +kernel
theorem dX6_miss_2 : decode cX6_miss 2 = .ok (.iconst 0, 1) := by decide +kernel
theorem dX6_miss_3 : decode cX6_miss 3 = .ok (.istore 5, 2) := by decide +kernel
theorem dX6_miss_5 : decode cX6_miss 5 = .ok (.iload 5, 2) := by decide +kernel
theorem dX6_miss_7 : decode cX6_miss 7 = .ok (.iconst 3, 1) := by decide +kernel
theorem dX6_miss_8 : decode cX6_miss 8 = .ok (.if_icmp .ge 52, 3) := by decide +kernel
theorem dX6_miss_11 : decode cX6_miss 11 = .ok (.lload_n 3, 1) := by decide +kernel
theorem dX6_miss_12 : decode cX6_miss 12 = .ok (.aload_n 0, 1) := by decide +kernel
theorem dX6_miss_13 : decode cX6_miss 13 = .ok (.iload 5, 2) := by decide +kernel
theorem dX6_miss_15 : decode cX6_miss 15 = .ok (.invokevirtual 223, 3) := by decide +kernel
theorem dX6_miss_18 : decode cX6_miss 18 = .ok (.aload_n 0, 1) := by decide +kernel
theorem dX6_miss_19 : decode cX6_miss 19 = .ok (.iload_n 1, 1) := by decide +kernel
theorem dX6_miss_20 : decode cX6_miss 20 = .ok (.aload_n 0, 1) := by decide +kernel
theorem dX6_miss_21 : decode cX6_miss 21 = .ok (.getfield 20, 3) := by decide +kernel
theorem dX6_miss_24 : decode cX6_miss 24 = .ok (.iload_n 1, 1) := by decide +kernel
theorem dX6_miss_25 : decode cX6_miss 25 = .ok (.iaload, 1) := by decide +kernel
theorem dX6_miss_26 : decode cX6_miss 26 = .ok (.iload 5, 2) := by decide +kernel
theorem dX6_miss_28 : decode cX6_miss 28 = .ok (.invokevirtual 220, 3) := by decide +kernel
theorem dX6_miss_31 : decode cX6_miss 31 = .ok (.lsub, 1) := by decide +kernel
theorem dX6_miss_32 : decode cX6_miss 32 = .ok (.aload_n 0, 1) := by decide +kernel
theorem dX6_miss_33 : decode cX6_miss 33 = .ok (.iload_n 1, 1) := by decide +kernel
theorem dX6_miss_34 : decode cX6_miss 34 = .ok (.iload_n 2, 1) := by decide +kernel
theorem dX6_miss_35 : decode cX6_miss 35 = .ok (.iload 5, 2) := by decide +kernel
theorem dX6_miss_37 : decode cX6_miss 37 = .ok (.invokevirtual 220, 3) := by decide +kernel
theorem dX6_miss_40 : decode cX6_miss 40 = .ok (.ladd, 1) := by decide +kernel
theorem dX6_miss_41 : decode cX6_miss 41 = .ok (.aload_n 0, 1) := by decide +kernel
theorem dX6_miss_42 : decode cX6_miss 42 = .ok (.getfield 32, 3) := by decide +kernel
theorem dX6_miss_45 : decode cX6_miss 45 = .ok (.iload 5, 2) := by decide +kernel
theorem dX6_miss_47 : decode cX6_miss 47 = .ok (.laload, 1) := by decide +kernel
theorem dX6_miss_48 : decode cX6_miss 48 = .ok (.lsub, 1) := by decide +kernel
theorem dX6_miss_49 : decode cX6_miss 49 = .ok (.invokestatic 153, 3) := by decide +kernel
theorem dX6_miss_52 : decode cX6_miss 52 = .ok (.ladd, 1) := by decide +kernel
theorem dX6_miss_53 : decode cX6_miss 53 = .ok (.lstore_n 3, 1) := by decide +kernel
theorem dX6_miss_54 : decode cX6_miss 54 = .ok (.iinc 5 1, 3) := by decide +kernel
theorem dX6_miss_57 : decode cX6_miss 57 = .ok (.goto (-52), 3) := by decide +kernel
theorem dX6_miss_60 : decode cX6_miss 60 = .ok (.lload_n 3, 1) := by decide +kernel
theorem dX6_miss_61 : decode cX6_miss 61 = .ok (.lreturn, 1) := by decide +kernel
set_option maxRecDepth 20000 in
theorem ggX6_wrongNow_X6_miss : GoodIn wsX6_wrongNow wsX6_miss := goodIn_r _ [12, 5, 4, 13, 14, 15, 11, 16, 1, 17, 18, 19, 20, 21, 22, 23, 24, 25, 26, 27, 28, 29, 30, 31, 32, 33, 34, 35, 36, 37, 38, 39, 40, 41, 42, 43, 44, 45, 46, 47, 48, 49, 50, 51, 52] (by decide +kernel) (by decide +kernel)
set_option maxRecDepth 20000 in
theorem gX6_wrongNow_X6_miss : GoodIn wsX6_wrongNow (wsV RX6 229 RX6 yX6_miss wsX6_miss) := goodIn_app (goodIn_of _ (by decide +kernel)) ggX6_wrongNow_X6_miss
theorem dX6_wrongNow_0 : decode cX6_wrongNow 0 = .ok (.aload_n 0, 1) := by decide +kernel
theorem dX6_wrongNow_1 : decode cX6_wrongNow 1 = .ok (.getfield 43, 3) := by decide +kernel
theorem dX6_wrongNow_4 : decode cX6_wrongNow 4 = .ok (.ifCond .eq 11, 3) := by decide +kernel
theorem dX6_wrongNow_7 : decode cX6_wrongNow 7 = .ok (.aload_n 0, 1) := by decide +kernel
theorem dX6_wrongNow_8 : decode cX6_wrongNow 8 = .ok (.getfield 35, 3) := by decide +kernel
theorem dX6_wrongNow_11 : decode cX6_wrongNow 11 = .ok (.iconst 2, 1) := by decide +kernel
theorem dX6_wrongNow_12 : decode cX6_wrongNow 12 = .ok (.if_icmp .ge 7, 3) := by decide +kernel
theorem dX6_wrongNow_15 : decode cX6_wrongNow 15 = .ok (.ldc2_w 134, 3) := by decide +kernel
theorem dX6_wrongNow_18 : decode cX6_wrongNow 18 = .ok (.lreturn, 1) := by decide +kernel
theorem dX6_wrongNow_19 : decode cX6_wrongNow 19 = .ok (.aload_n 0, 1) := by decide +kernel
theorem dX6_wrongNow_20 : decode cX6_wrongNow 20 = .ok (.getfield 32, 3) := by decide +kernel
theorem dX6_wrongNow_23 : decode cX6_wrongNow 23 = .ok (.iconst 0, 1) := by decide +kernel
theorem dX6_wrongNow_24 : decode cX6_wrongNow 24 = .ok (.lload_n 1, 1) := by decide +kernel
theorem dX6_wrongNow_25 : decode cX6_wrongNow 25 = .ok (.lastore, 1) := by decide +kernel
theorem dX6_wrongNow_26 : decode cX6_wrongNow 26 = .ok (.aload_n 0, 1) := by decide +kernel
theorem dX6_wrongNow_27 : decode cX6_wrongNow 27 = .ok (.getfield 32, 3) := by decide +kernel
theorem dX6_wrongNow_30 : decode cX6_wrongNow 30 = .ok (.iconst 1, 1) := by decide +kernel
theorem dX6_wrongNow_31 : decode cX6_wrongNow 31 = .ok (.lload_n 3, 1) := by decide +kernel
theorem dX6_wrongNow_32 : decode cX6_wrongNow 32 = .ok (.lastore, 1) := by decide +kernel
theorem dX6_wrongNow_33 : decode cX6_wrongNow 33 = .ok (.aload_n 0, 1) := by decide +kernel
theorem dX6_wrongNow_34 : decode cX6_wrongNow 34 = .ok (.getfield 32, 3) := by decide +kernel
theorem dX6_wrongNow_37 : decode cX6_wrongNow 37 = .ok (.iconst 2, 1) := by decide +kernel
theorem dX6_wrongNow_38 : decode cX6_wrongNow 38 = .ok (.lload 5, 2) := by decide +kernel
theorem dX6_wrongNow_40 : decode cX6_wrongNow 40 = .ok (.lastore, 1) := by decide +kernel
theorem dX6_wrongNow_41 : decode cX6_wrongNow 41 = .ok (.ldc2_w 134, 3) := by decide +kernel
theorem dX6_wrongNow_44 : decode cX6_wrongNow 44 = .ok (.lstore 7, 2) := by decide +kernel
theorem dX6_wrongNow_46 : decode cX6_wrongNow 46 = .ok (.lconst 0, 1) := by decide +kernel
theorem dX6_wrongNow_47 : decode cX6_wrongNow 47 = .ok (.lstore 9, 2) := by decide +kernel
theorem dX6_wrongNow_49 : decode cX6_wrongNow 49 = .ok (.iconst 0, 1) := by decide +kernel
theorem dX6_wrongNow_50 : decode cX6_wrongNow 50 = .ok (.istore 11, 2) := by decide +kernel
theorem dX6_wrongNow_52 : decode cX6_wrongNow 52 = .ok (.iload 11, 2) := by decide +kernel
theorem dX6_wrongNow_54 : decode cX6_wrongNow 54 = .ok (.aload_n 0, 1) := by decide +kernel
theorem dX6_wrongNow_55 : decode cX6_wrongNow 55 = .ok (.getfield 43, 3) := by decide +kernel
theorem dX6_wrongNow_58 : decode cX6_wrongNow 58 = .ok (.if_icmp .ge 123, 3) := by decide +kernel
theorem dX6_wrongNow_61 : decode cX6_wrongNow 61 = .ok (.iconst 0, 1) := by decide +kernel
theorem dX6_wrongNow_62 : decode cX6_wrongNow 62 = .ok (.istore 12, 2) := by decide +kernel
theorem dX6_wrongNow_64 : decode cX6_wrongNow 64 = .ok (.iload 12, 2) := by decide +kernel
theorem dX6_wrongNow_66 : decode cX6_wrongNow 66 = .ok (.aload_n 0, 1) := by decide +kernel
theorem dX6_wrongNow_67 : decode cX6_wrongNow 67 = .ok (.getfield 35, 3) := by decide +kernel
theorem dX6_wrongNow_70 : decode cX6_wrongNow 70 = .ok (.if_icmp .ge 105, 3) := by decide +kernel
theorem dX6_wrongNow_73 : decode cX6_wrongNow 73 = .ok (.iload 12, 2) := by decide +kernel
theorem dX6_wrongNow_75 : decode cX6_wrongNow 75 = .ok (.aload_n 0, 1) := by decide +kernel
theorem dX6_wrongNow_76 : decode cX6_wrongNow 76 = .ok (.getfield 20, 3) := by decide +kernel
theorem dX6_wrongNow_79 : decode cX6_wrongNow 79 = .ok (.iload 11, 2) := by decide +kernel
theorem dX6_wrongNow_81 : decode cX6_wrongNow 81 = .ok (.iaload, 1) := by decide +kernel
theorem dX6_wrongNow_82 : decode cX6_wrongNow 82 = .ok (.if_icmp .ne 9, 3) := by decide +kernel
theorem dX6_wrongNow_85 : decode cX6_wrongNow 85 = .ok (.ldc2_w 203, 3) := by decide +kernel
theorem dX6_wrongNow_88 : decode cX6_wrongNow 88 = .ok (.goto 11, 3) := by decide +kernel
theorem dX6_wrongNow_91 : decode cX6_wrongNow 91 = .ok (.aload_n 0, 1) := by decide +kernel
theorem dX6_wrongNow_92 : decode cX6_wrongNow 92 = .ok (.iload 11, 2) := by decide +kernel
theorem dX6_wrongNow_94 : decode cX6_wrongNow 94 = .ok (.iload 12, 2) := by decide +kernel
theorem dX6_wrongNow_96 : decode cX6_wrongNow 96 = .ok (.invokevirtual 229, 3) := by decide +kernel
theorem dX6_wrongNow_99 : decode cX6_wrongNow 99 = .ok (.lstore 13, 2) := by decide +kernel
theorem dX6_wrongNow_101 : decode cX6_wrongNow 101 = .ok (.lload 13, 2) := by decide +kernel
theorem dX6_wrongNow_103 : decode cX6_wrongNow 103 = .ok (.lconst 0, 1) := by decide +kernel
theorem dX6_wrongNow_104 : decode cX6_wrongNow 104 = .ok (.lcmp, 1) := by decide +kernel
theorem dX6_wrongNow_105 : decode cX6_wrongNow 105 = .ok (.ifCond .lt 24, 3) := by decide +kernel
theorem dX6_wrongNow_108 : decode cX6_wrongNow 108 = .ok (.lload 7, 2) := by decide +kernel
theorem dX6_wrongNow_110 : decode cX6_wrongNow 110 = .ok (.ldc2_w 134, 3) := by decide +kernel
theorem dX6_wrongNow_113 : decode cX6_wrongNow 113 = .ok (.lcmp, 1) := by decide +kernel
theorem dX6_wrongNow_114 : decode cX6_wrongNow 114 = .ok (.ifCond .eq 11, 3) := by decide +kernel
theorem dX6_wrongNow_117 : decode cX6_wrongNow 117 = .ok (.lload 13, 2) := by decide +kernel
theorem dX6_wrongNow_119 : decode cX6_wrongNow 119 = .ok (.lload 9, 2) := by decide +kernel
theorem dX6_wrongNow_121 : decode cX6_wrongNow 121 = .ok (.lcmp, 1) := by decide +kernel
theorem dX6_wrongNow_122 : decode cX6_wrongNow 122 = .ok (.ifCond .ge 7, 3) := by decide +kernel
theorem dX6_wrongNow_125 : decode cX6_wrongNow 125 = .ok (.iconst 1, 1) := by decide +kernel
theorem dX6_wrongNow_126 : decode cX6_wrongNow 126 = .ok (.goto 4, 3) := by decide +kernel
theorem dX6_wrongNow_129 : decode cX6_wrongNow 129 = .ok (.iconst 0, 1) := by decide +kernel
theorem dX6_wrongNow_130 : decode cX6_wrongNow 130 = .ok (.istore 15, 2) := by decide +kernel
theorem dX6_wrongNow_132 : decode cX6_wrongNow 132 = .ok (.iload 15, 2) := by decide +kernel
theorem dX6_wrongNow_134 : decode cX6_wrongNow 134 = .ok (.ifCond .eq 17, 3) := by decide +kernel
theorem dX6_wrongNow_137 : decode cX6_wrongNow 137 = .ok (.ldc2_w 186, 3) := by decide +kernel
theorem dX6_wrongNow_140 : decode cX6_wrongNow 140 = .ok (.iload 11, 2) := by decide +kernel
theorem dX6_wrongNow_142 : decode cX6_wrongNow 142 = .ok (.i2l, 1) := by decide +kernel
theorem dX6_wrongNow_143 : decode cX6_wrongNow 143 = .ok (.lmul, 1) := by decide +kernel
theorem dX6_wrongNow_144 : decode cX6_wrongNow 144 = .ok (.iload 12, 2) := by decide +kernel
theorem dX6_wrongNow_146 : decode cX6_wrongNow 146 = .ok (.i2l, 1) := by decide +kernel
theorem dX6_wrongNow_147 : decode cX6_wrongNow 147 = .ok (.ladd, 1) := by decide +kernel
theorem dX6_wrongNow_148 : decode cX6_wrongNow 148 = .ok (.goto 5, 3) := by decide +kernel
theorem dX6_wrongNow_151 : decode cX6_wrongNow 151 = .ok (.lload 7, 2) := by decide +kernel
theorem dX6_wrongNow_153 : decode cX6_wrongNow 153 = .ok (.lstore 7, 2) := by decide +kernel
theorem dX6_wrongNow_155 : decode cX6_wrongNow 155 = .ok (.iload 15, 2) := by decide +kernel
theorem dX6_wrongNow_157 : decode cX6_wrongNow 157 = .ok (.ifCond .eq 8, 3) := by decide +kernel
theorem dX6_wrongNow_160 : decode cX6_wrongNow 160 = .ok (.lload 13, 2) := by decide +kernel
theorem dX6_wrongNow_162 : decode cX6_wrongNow 162 = .ok (.goto 5, 3) := by decide +kernel
theorem dX6_wrongNow_165 : decode cX6_wrongNow 165 = .ok (.lload 9, 2) := by decide +kernel
theorem dX6_wrongNow_167 : decode cX6_wrongNow 167 = .ok (.lstore 9, 2) := by decide +kernel
theorem dX6_wrongNow_169 : decode cX6_wrongNow 169 = .ok (.iinc 12 1, 3) := by decide +kernel
theorem dX6_wrongNow_172 : decode cX6_wrongNow 172 = .ok (.goto (-108), 3) := by decide +kernel
theorem dX6_wrongNow_175 : decode cX6_wrongNow 175 = .ok (.iinc 11 1, 3) := by decide +kernel
theorem dX6_wrongNow_178 : decode cX6_wrongNow 178 = .ok (.goto (-126), 3) := by decide +kernel
theorem dX6_wrongNow_181 : decode cX6_wrongNow 181 = .ok (.lload 7, 2) := by decide +kernel
theorem dX6_wrongNow_183 : decode cX6_wrongNow 183 = .ok (.lreturn, 1) := by decide +kernel
set_option maxRecDepth 20000 in
theorem ggX6_isMeasured_X6_within : GoodIn wsX6_isMeasured wsX6_within := goodIn_r _ [6] (by decide +kernel) (by decide +kernel)
set_option maxRecDepth 20000 in
theorem gX6_isMeasured_X6_within : GoodIn wsX6_isMeasured (va_wsS RX6 39 yX6_within wsX6_within) := goodIn_app (goodIn_of _ (by decide +kernel)) ggX6_isMeasured_X6_within
theorem dX6_isMeasured_0 : decode cX6_isMeasured 0 = .ok (.lload_n 0, 1) := by decide +kernel
theorem dX6_isMeasured_1 : decode cX6_isMeasured 1 = .ok (.ldc2_w 232, 3) := by decide +kernel
theorem dX6_isMeasured_4 : decode cX6_isMeasured 4 = .ok (.ldc2_w 234, 3) := by decide +kernel
theorem dX6_isMeasured_7 : decode cX6_isMeasured 7 = .ok (.invokestatic 39, 3) := by decide +kernel
theorem dX6_isMeasured_10 : decode cX6_isMeasured 10 = .ok (.ireturn, 1) := by decide +kernel
set_option maxRecDepth 20000 in
theorem ggX6_findWrongGlass_X6_isMeasured : GoodIn wsX6_findWrongGlass wsX6_isMeasured := goodIn_r _ [5, 6, 7, 8, 9, 4, 10] (by decide +kernel) (by decide +kernel)
set_option maxRecDepth 20000 in
theorem gX6_findWrongGlass_X6_isMeasured : GoodIn wsX6_findWrongGlass (va_wsS RX6 236 yX6_isMeasured wsX6_isMeasured) := goodIn_app (goodIn_of _ (by decide +kernel)) ggX6_findWrongGlass_X6_isMeasured
set_option maxRecDepth 20000 in
theorem ggX6_findWrongGlass_X6_wrongNow : GoodIn wsX6_findWrongGlass wsX6_wrongNow := goodIn_r _ [14, 15, 16, 17, 18, 19, 20, 21, 22, 23, 24, 4, 25, 26, 27, 28, 29, 30, 31, 32, 33, 34, 35, 36, 37, 38, 39, 40, 41, 42, 43, 44, 45, 46, 47, 48, 49, 50, 51, 52, 53, 54, 55, 56, 57, 58, 59, 60, 61, 62, 63, 64, 65] (by decide +kernel) (by decide +kernel)
set_option maxRecDepth 20000 in
theorem gX6_findWrongGlass_X6_wrongNow : GoodIn wsX6_findWrongGlass (wsV RX6 239 RX6 yX6_wrongNow wsX6_wrongNow) := goodIn_app (goodIn_of _ (by decide +kernel)) ggX6_findWrongGlass_X6_wrongNow
theorem dX6_findWrongGlass_0 : decode cX6_findWrongGlass 0 = .ok (.lload_n 1, 1) := by decide +kernel
theorem dX6_findWrongGlass_1 : decode cX6_findWrongGlass 1 = .ok (.invokestatic 236, 3) := by decide +kernel
theorem dX6_findWrongGlass_4 : decode cX6_findWrongGlass 4 = .ok (.ifCond .eq 29, 3) := by decide +kernel
theorem dX6_findWrongGlass_7 : decode cX6_findWrongGlass 7 = .ok (.lload_n 3, 1) := by decide +kernel
theorem dX6_findWrongGlass_8 : decode cX6_findWrongGlass 8 = .ok (.invokestatic 236, 3) := by decide +kernel
theorem dX6_findWrongGlass_11 : decode cX6_findWrongGlass 11 = .ok (.ifCond .eq 22, 3) := by decide +kernel
theorem dX6_findWrongGlass_14 : decode cX6_findWrongGlass 14 = .ok (.lload 5, 2) := by decide +kernel
theorem dX6_findWrongGlass_16 : decode cX6_findWrongGlass 16 = .ok (.invokestatic 236, 3) := by decide +kernel
theorem dX6_findWrongGlass_19 : decode cX6_findWrongGlass 19 = .ok (.ifCond .eq 14, 3) := by decide +kernel
theorem dX6_findWrongGlass_22 : decode cX6_findWrongGlass 22 = .ok (.aload_n 0, 1) := by decide +kernel
theorem dX6_findWrongGlass_23 : decode cX6_findWrongGlass 23 = .ok (.lload_n 1, 1) := by decide +kernel
theorem dX6_findWrongGlass_24 : decode cX6_findWrongGlass 24 = .ok (.lload_n 3, 1) := by decide +kernel
theorem dX6_findWrongGlass_25 : decode cX6_findWrongGlass 25 = .ok (.lload 5, 2) := by decide +kernel
theorem dX6_findWrongGlass_27 : decode cX6_findWrongGlass 27 = .ok (.invokevirtual 239, 3) := by decide +kernel
theorem dX6_findWrongGlass_30 : decode cX6_findWrongGlass 30 = .ok (.goto 6, 3) := by decide +kernel
theorem dX6_findWrongGlass_33 : decode cX6_findWrongGlass 33 = .ok (.ldc2_w 53, 3) := by decide +kernel
theorem dX6_findWrongGlass_36 : decode cX6_findWrongGlass 36 = .ok (.lreturn, 1) := by decide +kernel
set_option maxRecDepth 20000 in
theorem ggX6_addPlate_X6_within : GoodIn wsX6_addPlate wsX6_within := goodIn_r _ [11] (by decide +kernel) (by decide +kernel)
set_option maxRecDepth 20000 in
theorem gX6_addPlate_X6_within : GoodIn wsX6_addPlate (va_wsS RX6 39 yX6_within wsX6_within) := goodIn_app (goodIn_of _ (by decide +kernel)) ggX6_addPlate_X6_within
theorem dX6_addPlate_0 : decode cX6_addPlate 0 = .ok (.iload_n 1, 1) := by decide +kernel
theorem dX6_addPlate_1 : decode cX6_addPlate 1 = .ok (.i2l, 1) := by decide +kernel
theorem dX6_addPlate_2 : decode cX6_addPlate 2 = .ok (.ldc2_w 115, 3) := by decide +kernel
theorem dX6_addPlate_5 : decode cX6_addPlate 5 = .ok (.ldc2_w 148, 3) := by decide +kernel
theorem dX6_addPlate_8 : decode cX6_addPlate 8 = .ok (.invokestatic 39, 3) := by decide +kernel
theorem dX6_addPlate_11 : decode cX6_addPlate 11 = .ok (.ifCond .ne 7, 3) := by decide +kernel
theorem dX6_addPlate_14 : decode cX6_addPlate 14 = .ok (.ldc2_w 53, 3) := by decide +kernel
theorem dX6_addPlate_17 : decode cX6_addPlate 17 = .ok (.lreturn, 1) := by decide +kernel
theorem dX6_addPlate_18 : decode cX6_addPlate 18 = .ok (.iconst 0, 1) := by decide +kernel
theorem dX6_addPlate_19 : decode cX6_addPlate 19 = .ok (.istore_n 2, 1) := by decide +kernel
theorem dX6_addPlate_20 : decode cX6_addPlate 20 = .ok (.iload_n 2, 1) := by decide +kernel
theorem dX6_addPlate_21 : decode cX6_addPlate 21 = .ok (.aload_n 0, 1) := by decide +kernel
theorem dX6_addPlate_22 : decode cX6_addPlate 22 = .ok (.getfield 243, 3) := by decide +kernel
theorem dX6_addPlate_25 : decode cX6_addPlate 25 = .ok (.if_icmp .ge 23, 3) := by decide +kernel
theorem dX6_addPlate_28 : decode cX6_addPlate 28 = .ok (.aload_n 0, 1) := by decide +kernel
theorem dX6_addPlate_29 : decode cX6_addPlate 29 = .ok (.getfield 26, 3) := by decide +kernel
theorem dX6_addPlate_32 : decode cX6_addPlate 32 = .ok (.iload_n 2, 1) := by decide +kernel
theorem dX6_addPlate_33 : decode cX6_addPlate 33 = .ok (.iaload, 1) := by decide +kernel
theorem dX6_addPlate_34 : decode cX6_addPlate 34 = .ok (.iload_n 1, 1) := by decide +kernel
theorem dX6_addPlate_35 : decode cX6_addPlate 35 = .ok (.if_icmp .ne 7, 3) := by decide +kernel
theorem dX6_addPlate_38 : decode cX6_addPlate 38 = .ok (.ldc2_w 98, 3) := by decide +kernel
theorem dX6_addPlate_41 : decode cX6_addPlate 41 = .ok (.lreturn, 1) := by decide +kernel
theorem dX6_addPlate_42 : decode cX6_addPlate 42 = .ok (.iinc 2 1, 3) := by decide +kernel
theorem dX6_addPlate_45 : decode cX6_addPlate 45 = .ok (.goto (-25), 3) := by decide +kernel
theorem dX6_addPlate_48 : decode cX6_addPlate 48 = .ok (.aload_n 0, 1) := by decide +kernel
theorem dX6_addPlate_49 : decode cX6_addPlate 49 = .ok (.getfield 243, 3) := by decide +kernel
theorem dX6_addPlate_52 : decode cX6_addPlate 52 = .ok (.bipush 16, 2) := by decide +kernel
theorem dX6_addPlate_54 : decode cX6_addPlate 54 = .ok (.if_icmp .ne 7, 3) := by decide +kernel
theorem dX6_addPlate_57 : decode cX6_addPlate 57 = .ok (.ldc2_w 58, 3) := by decide +kernel
theorem dX6_addPlate_60 : decode cX6_addPlate 60 = .ok (.lreturn, 1) := by decide +kernel
theorem dX6_addPlate_61 : decode cX6_addPlate 61 = .ok (.aload_n 0, 1) := by decide +kernel
theorem dX6_addPlate_62 : decode cX6_addPlate 62 = .ok (.getfield 26, 3) := by decide +kernel
theorem dX6_addPlate_65 : decode cX6_addPlate 65 = .ok (.aload_n 0, 1) := by decide +kernel
theorem dX6_addPlate_66 : decode cX6_addPlate 66 = .ok (.getfield 243, 3) := by decide +kernel
theorem dX6_addPlate_69 : decode cX6_addPlate 69 = .ok (.iload_n 1, 1) := by decide +kernel
theorem dX6_addPlate_70 : decode cX6_addPlate 70 = .ok (.iastore, 1) := by decide +kernel
theorem dX6_addPlate_71 : decode cX6_addPlate 71 = .ok (.aload_n 0, 1) := by decide +kernel
theorem dX6_addPlate_72 : decode cX6_addPlate 72 = .ok (.dup, 1) := by decide +kernel
theorem dX6_addPlate_73 : decode cX6_addPlate 73 = .ok (.getfield 243, 3) := by decide +kernel
theorem dX6_addPlate_76 : decode cX6_addPlate 76 = .ok (.iconst 1, 1) := by decide +kernel
theorem dX6_addPlate_77 : decode cX6_addPlate 77 = .ok (.iadd, 1) := by decide +kernel
theorem dX6_addPlate_78 : decode cX6_addPlate 78 = .ok (.putfield 243, 3) := by decide +kernel
theorem dX6_addPlate_81 : decode cX6_addPlate 81 = .ok (.aload_n 0, 1) := by decide +kernel
theorem dX6_addPlate_82 : decode cX6_addPlate 82 = .ok (.getfield 243, 3) := by decide +kernel
theorem dX6_addPlate_85 : decode cX6_addPlate 85 = .ok (.iconst 1, 1) := by decide +kernel
theorem dX6_addPlate_86 : decode cX6_addPlate 86 = .ok (.isub, 1) := by decide +kernel
theorem dX6_addPlate_87 : decode cX6_addPlate 87 = .ok (.i2l, 1) := by decide +kernel
theorem dX6_addPlate_88 : decode cX6_addPlate 88 = .ok (.lreturn, 1) := by decide +kernel
theorem dX6_plateCount_0 : decode cX6_plateCount 0 = .ok (.aload_n 0, 1) := by decide +kernel
theorem dX6_plateCount_1 : decode cX6_plateCount 1 = .ok (.getfield 243, 3) := by decide +kernel
theorem dX6_plateCount_4 : decode cX6_plateCount 4 = .ok (.i2l, 1) := by decide +kernel
theorem dX6_plateCount_5 : decode cX6_plateCount 5 = .ok (.lreturn, 1) := by decide +kernel
set_option maxRecDepth 20000 in
theorem ggX6_nearestPlate_X6_size : GoodIn wsX6_nearestPlate wsX6_size := goodIn_r _ [7] (by decide +kernel) (by decide +kernel)
set_option maxRecDepth 20000 in
theorem gX6_nearestPlate_X6_size : GoodIn wsX6_nearestPlate (va_wsS RX6 153 yX6_size wsX6_size) := goodIn_app (goodIn_of _ (by decide +kernel)) ggX6_nearestPlate_X6_size
theorem dX6_nearestPlate_0 : decode cX6_nearestPlate 0 = .ok (.iconst (-1), 1) := by decide +kernel
theorem dX6_nearestPlate_1 : decode cX6_nearestPlate 1 = .ok (.istore_n 2, 1) := by decide +kernel
theorem dX6_nearestPlate_2 : decode cX6_nearestPlate 2 = .ok (.iconst 0, 1) := by decide +kernel
theorem dX6_nearestPlate_3 : decode cX6_nearestPlate 3 = .ok (.istore_n 3, 1) := by decide +kernel
theorem dX6_nearestPlate_4 : decode cX6_nearestPlate 4 = .ok (.iload_n 3, 1) := by decide +kernel
theorem dX6_nearestPlate_5 : decode cX6_nearestPlate 5 = .ok (.aload_n 0, 1) := by decide +kernel
theorem dX6_nearestPlate_6 : decode cX6_nearestPlate 6 = .ok (.getfield 243, 3) := by decide +kernel
theorem dX6_nearestPlate_9 : decode cX6_nearestPlate 9 = .ok (.if_icmp .ge 100, 3) := by decide +kernel
theorem dX6_nearestPlate_12 : decode cX6_nearestPlate 12 = .ok (.aload_n 0, 1) := by decide +kernel
theorem dX6_nearestPlate_13 : decode cX6_nearestPlate 13 = .ok (.getfield 26, 3) := by decide +kernel
theorem dX6_nearestPlate_16 : decode cX6_nearestPlate 16 = .ok (.iload_n 3, 1) := by decide +kernel
theorem dX6_nearestPlate_17 : decode cX6_nearestPlate 17 = .ok (.iaload, 1) := by decide +kernel
theorem dX6_nearestPlate_18 : decode cX6_nearestPlate 18 = .ok (.i2l, 1) := by decide +kernel
theorem dX6_nearestPlate_19 : decode cX6_nearestPlate 19 = .ok (.iload_n 1, 1) := by decide +kernel
theorem dX6_nearestPlate_20 : decode cX6_nearestPlate 20 = .ok (.i2l, 1) := by decide +kernel
theorem dX6_nearestPlate_21 : decode cX6_nearestPlate 21 = .ok (.lsub, 1) := by decide +kernel
theorem dX6_nearestPlate_22 : decode cX6_nearestPlate 22 = .ok (.invokestatic 153, 3) := by decide +kernel
theorem dX6_nearestPlate_25 : decode cX6_nearestPlate 25 = .ok (.lstore 4, 2) := by decide +kernel
theorem dX6_nearestPlate_27 : decode cX6_nearestPlate 27 = .ok (.iload_n 2, 1) := by decide +kernel
theorem dX6_nearestPlate_28 : decode cX6_nearestPlate 28 = .ok (.ifCond .ge 7, 3) := by decide +kernel
theorem dX6_nearestPlate_31 : decode cX6_nearestPlate 31 = .ok (.lconst 0, 1) := by decide +kernel
theorem dX6_nearestPlate_32 : decode cX6_nearestPlate 32 = .ok (.goto 16, 3) := by decide +kernel
theorem dX6_nearestPlate_35 : decode cX6_nearestPlate 35 = .ok (.aload_n 0, 1) := by decide +kernel
theorem dX6_nearestPlate_36 : decode cX6_nearestPlate 36 = .ok (.getfield 26, 3) := by decide +kernel
theorem dX6_nearestPlate_39 : decode cX6_nearestPlate 39 = .ok (.iload_n 2, 1) := by decide +kernel
theorem dX6_nearestPlate_40 : decode cX6_nearestPlate 40 = .ok (.iaload, 1) := by decide +kernel
theorem dX6_nearestPlate_41 : decode cX6_nearestPlate 41 = .ok (.i2l, 1) := by decide +kernel
theorem dX6_nearestPlate_42 : decode cX6_nearestPlate 42 = .ok (.iload_n 1, 1) := by decide +kernel
theorem dX6_nearestPlate_43 : decode cX6_nearestPlate 43 = .ok (.i2l, 1) := by decide +kernel
theorem dX6_nearestPlate_44 : decode cX6_nearestPlate 44 = .ok (.lsub, 1) := by decide +kernel
theorem dX6_nearestPlate_45 : decode cX6_nearestPlate 45 = .ok (.invokestatic 153, 3) := by decide +kernel
theorem dX6_nearestPlate_48 : decode cX6_nearestPlate 48 = .ok (.lstore 6, 2) := by decide +kernel
theorem dX6_nearestPlate_50 : decode cX6_nearestPlate 50 = .ok (.iload_n 2, 1) := by decide +kernel
theorem dX6_nearestPlate_51 : decode cX6_nearestPlate 51 = .ok (.ifCond .lt 34, 3) := by decide +kernel
theorem dX6_nearestPlate_54 : decode cX6_nearestPlate 54 = .ok (.lload 4, 2) := by decide +kernel
theorem dX6_nearestPlate_56 : decode cX6_nearestPlate 56 = .ok (.lload 6, 2) := by decide +kernel
theorem dX6_nearestPlate_58 : decode cX6_nearestPlate 58 = .ok (.lcmp, 1) := by decide +kernel
theorem dX6_nearestPlate_59 : decode cX6_nearestPlate 59 = .ok (.ifCond .lt 26, 3) := by decide +kernel
theorem dX6_nearestPlate_62 : decode cX6_nearestPlate 62 = .ok (.lload 4, 2) := by decide +kernel
theorem dX6_nearestPlate_64 : decode cX6_nearestPlate 64 = .ok (.lload 6, 2) := by decide +kernel
theorem dX6_nearestPlate_66 : decode cX6_nearestPlate 66 = .ok (.lcmp, 1) := by decide +kernel
theorem dX6_nearestPlate_67 : decode cX6_nearestPlate 67 = .ok (.ifCond .ne 22, 3) := by decide +kernel
theorem dX6_nearestPlate_70 : decode cX6_nearestPlate 70 = .ok (.aload_n 0, 1) := by decide +kernel
theorem dX6_nearestPlate_71 : decode cX6_nearestPlate 71 = .ok (.getfield 26, 3) := by decide +kernel
theorem dX6_nearestPlate_74 : decode cX6_nearestPlate 74 = .ok (.iload_n 3, 1) := by decide +kernel
theorem dX6_nearestPlate_75 : decode cX6_nearestPlate 75 = .ok (.iaload, 1) := by decide +kernel
theorem dX6_nearestPlate_76 : decode cX6_nearestPlate 76 = .ok (.aload_n 0, 1) := by decide +kernel
theorem dX6_nearestPlate_77 : decode cX6_nearestPlate 77 = .ok (.getfield 26, 3) := by decide +kernel
theorem dX6_nearestPlate_80 : decode cX6_nearestPlate 80 = .ok (.iload_n 2, 1) := by decide +kernel
theorem dX6_nearestPlate_81 : decode cX6_nearestPlate 81 = .ok (.iaload, 1) := by decide +kernel
theorem dX6_nearestPlate_82 : decode cX6_nearestPlate 82 = .ok (.if_icmp .ge 7, 3) := by decide +kernel
theorem dX6_nearestPlate_85 : decode cX6_nearestPlate 85 = .ok (.iconst 1, 1) := by decide +kernel
theorem dX6_nearestPlate_86 : decode cX6_nearestPlate 86 = .ok (.goto 4, 3) := by decide +kernel
theorem dX6_nearestPlate_89 : decode cX6_nearestPlate 89 = .ok (.iconst 0, 1) := by decide +kernel
theorem dX6_nearestPlate_90 : decode cX6_nearestPlate 90 = .ok (.istore 8, 2) := by decide +kernel
theorem dX6_nearestPlate_92 : decode cX6_nearestPlate 92 = .ok (.iload 8, 2) := by decide +kernel
theorem dX6_nearestPlate_94 : decode cX6_nearestPlate 94 = .ok (.ifCond .eq 7, 3) := by decide +kernel
