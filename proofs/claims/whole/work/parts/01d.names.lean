theorem dX5_doubletPower_119 : decode cX5_doubletPower 119 = .ok (.i2l, 1) := by decide +kernel
theorem dX5_doubletPower_120 : decode cX5_doubletPower 120 = .ok (.lmul, 1) := by decide +kernel
theorem dX5_doubletPower_121 : decode cX5_doubletPower 121 = .ok (.lload 7, 2) := by decide +kernel
theorem dX5_doubletPower_123 : decode cX5_doubletPower 123 = .ok (.lmul, 1) := by decide +kernel
theorem dX5_doubletPower_124 : decode cX5_doubletPower 124 = .ok (.lload 5, 2) := by decide +kernel
theorem dX5_doubletPower_126 : decode cX5_doubletPower 126 = .ok (.invokestatic 132, 3) := by decide +kernel
theorem dX5_doubletPower_129 : decode cX5_doubletPower 129 = .ok (.lreturn, 1) := by decide +kernel
set_option maxRecDepth 20000 in
theorem ggX5_secondarySpectrum_X0_has : GoodIn wsX5_secondarySpectrum wsX0_has := goodIn_r _ [10, 11, 52, 53, 54, 55, 56] (by decide +kernel) (by decide +kernel)
set_option maxRecDepth 20000 in
theorem gX5_secondarySpectrum_X0_has : GoodIn wsX5_secondarySpectrum (wsV RX5 93 RX0 yX0_has wsX0_has) := goodIn_app (goodIn_of _ (by decide +kernel)) ggX5_secondarySpectrum_X0_has
set_option maxRecDepth 20000 in
theorem ggX5_secondarySpectrum_X5_isDesignPower : GoodIn wsX5_secondarySpectrum wsX5_isDesignPower := goodIn_r _ [15] (by decide +kernel) (by decide +kernel)
set_option maxRecDepth 20000 in
theorem gX5_secondarySpectrum_X5_isDesignPower : GoodIn wsX5_secondarySpectrum (va_wsS RX5 141 yX5_isDesignPower wsX5_isDesignPower) := goodIn_app (goodIn_of _ (by decide +kernel)) ggX5_secondarySpectrum_X5_isDesignPower
set_option maxRecDepth 20000 in
theorem ggX5_secondarySpectrum_X0_valueE : GoodIn wsX5_secondarySpectrum wsX0_valueE := goodIn_r _ [19, 20, 21, 22, 9, 23, 24, 25, 26, 27, 28, 29, 30, 31, 52, 53, 54, 55, 56] (by decide +kernel) (by decide +kernel)
set_option maxRecDepth 20000 in
theorem gX5_secondarySpectrum_X0_valueE : GoodIn wsX5_secondarySpectrum (wsV RX5 144 RX0 yX0_valueE wsX0_valueE) := goodIn_app (goodIn_of _ (by decide +kernel)) ggX5_secondarySpectrum_X0_valueE
set_option maxRecDepth 20000 in
theorem ggX5_secondarySpectrum_X0_valueX : GoodIn wsX5_secondarySpectrum wsX0_valueX := goodIn_r _ [35, 26, 27, 28, 9, 29, 30, 31, 36, 37, 38, 39, 24, 52, 53, 54, 55, 56] (by decide +kernel) (by decide +kernel)
set_option maxRecDepth 20000 in
theorem gX5_secondarySpectrum_X0_valueX : GoodIn wsX5_secondarySpectrum (wsV RX5 154 RX0 yX0_valueX wsX0_valueX) := goodIn_app (goodIn_of _ (by decide +kernel)) ggX5_secondarySpectrum_X0_valueX
set_option maxRecDepth 20000 in
theorem ggX5_secondarySpectrum_X5_floorQuotient : GoodIn wsX5_secondarySpectrum wsX5_floorQuotient := goodIn_r _ [42, 43, 44, 45, 46] (by decide +kernel) (by decide +kernel)
set_option maxRecDepth 20000 in
theorem gX5_secondarySpectrum_X5_floorQuotient : GoodIn wsX5_secondarySpectrum (va_wsS RX5 132 yX5_floorQuotient wsX5_floorQuotient) := goodIn_app (goodIn_of _ (by decide +kernel)) ggX5_secondarySpectrum_X5_floorQuotient
theorem dX5_secondarySpectrum_0 : decode cX5_secondarySpectrum 0 = .ok (.aload_n 0, 1) := by decide +kernel
theorem dX5_secondarySpectrum_1 : decode cX5_secondarySpectrum 1 = .ok (.getfield 19, 3) := by decide +kernel
theorem dX5_secondarySpectrum_4 : decode cX5_secondarySpectrum 4 = .ok (.iload_n 1, 1) := by decide +kernel
theorem dX5_secondarySpectrum_5 : decode cX5_secondarySpectrum 5 = .ok (.invokevirtual 93, 3) := by decide +kernel
theorem dX5_secondarySpectrum_8 : decode cX5_secondarySpectrum 8 = .ok (.ifCond .eq 14, 3) := by decide +kernel
theorem dX5_secondarySpectrum_11 : decode cX5_secondarySpectrum 11 = .ok (.aload_n 0, 1) := by decide +kernel
theorem dX5_secondarySpectrum_12 : decode cX5_secondarySpectrum 12 = .ok (.getfield 19, 3) := by decide +kernel
theorem dX5_secondarySpectrum_15 : decode cX5_secondarySpectrum 15 = .ok (.iload_n 2, 1) := by decide +kernel
theorem dX5_secondarySpectrum_16 : decode cX5_secondarySpectrum 16 = .ok (.invokevirtual 93, 3) := by decide +kernel
theorem dX5_secondarySpectrum_19 : decode cX5_secondarySpectrum 19 = .ok (.ifCond .ne 7, 3) := by decide +kernel
theorem dX5_secondarySpectrum_22 : decode cX5_secondarySpectrum 22 = .ok (.ldc2_w 97, 3) := by decide +kernel
theorem dX5_secondarySpectrum_25 : decode cX5_secondarySpectrum 25 = .ok (.lreturn, 1) := by decide +kernel
theorem dX5_secondarySpectrum_26 : decode cX5_secondarySpectrum 26 = .ok (.iload_n 3, 1) := by decide +kernel
theorem dX5_secondarySpectrum_27 : decode cX5_secondarySpectrum 27 = .ok (.invokestatic 141, 3) := by decide +kernel
theorem dX5_secondarySpectrum_30 : decode cX5_secondarySpectrum 30 = .ok (.ifCond .ne 7, 3) := by decide +kernel
theorem dX5_secondarySpectrum_33 : decode cX5_secondarySpectrum 33 = .ok (.ldc2_w 44, 3) := by decide +kernel
theorem dX5_secondarySpectrum_36 : decode cX5_secondarySpectrum 36 = .ok (.lreturn, 1) := by decide +kernel
theorem dX5_secondarySpectrum_37 : decode cX5_secondarySpectrum 37 = .ok (.aload_n 0, 1) := by decide +kernel
theorem dX5_secondarySpectrum_38 : decode cX5_secondarySpectrum 38 = .ok (.getfield 19, 3) := by decide +kernel
theorem dX5_secondarySpectrum_41 : decode cX5_secondarySpectrum 41 = .ok (.iload_n 1, 1) := by decide +kernel
theorem dX5_secondarySpectrum_42 : decode cX5_secondarySpectrum 42 = .ok (.iload_n 2, 1) := by decide +kernel
theorem dX5_secondarySpectrum_43 : decode cX5_secondarySpectrum 43 = .ok (.invokevirtual 144, 3) := by decide +kernel
theorem dX5_secondarySpectrum_46 : decode cX5_secondarySpectrum 46 = .ok (.lstore 4, 2) := by decide +kernel
theorem dX5_secondarySpectrum_48 : decode cX5_secondarySpectrum 48 = .ok (.lload 4, 2) := by decide +kernel
theorem dX5_secondarySpectrum_50 : decode cX5_secondarySpectrum 50 = .ok (.lconst 0, 1) := by decide +kernel
theorem dX5_secondarySpectrum_51 : decode cX5_secondarySpectrum 51 = .ok (.lcmp, 1) := by decide +kernel
theorem dX5_secondarySpectrum_52 : decode cX5_secondarySpectrum 52 = .ok (.ifCond .ne 7, 3) := by decide +kernel
theorem dX5_secondarySpectrum_55 : decode cX5_secondarySpectrum 55 = .ok (.ldc2_w 139, 3) := by decide +kernel
theorem dX5_secondarySpectrum_58 : decode cX5_secondarySpectrum 58 = .ok (.lreturn, 1) := by decide +kernel
theorem dX5_secondarySpectrum_59 : decode cX5_secondarySpectrum 59 = .ok (.ldc2_w 152, 3) := by decide +kernel
theorem dX5_secondarySpectrum_62 : decode cX5_secondarySpectrum 62 = .ok (.iload_n 3, 1) := by decide +kernel
theorem dX5_secondarySpectrum_63 : decode cX5_secondarySpectrum 63 = .ok (.i2l, 1) := by decide +kernel
theorem dX5_secondarySpectrum_64 : decode cX5_secondarySpectrum 64 = .ok (.lmul, 1) := by decide +kernel
theorem dX5_secondarySpectrum_65 : decode cX5_secondarySpectrum 65 = .ok (.aload_n 0, 1) := by decide +kernel
theorem dX5_secondarySpectrum_66 : decode cX5_secondarySpectrum 66 = .ok (.getfield 19, 3) := by decide +kernel
theorem dX5_secondarySpectrum_69 : decode cX5_secondarySpectrum 69 = .ok (.iload_n 2, 1) := by decide +kernel
theorem dX5_secondarySpectrum_70 : decode cX5_secondarySpectrum 70 = .ok (.iload_n 1, 1) := by decide +kernel
theorem dX5_secondarySpectrum_71 : decode cX5_secondarySpectrum 71 = .ok (.invokevirtual 154, 3) := by decide +kernel
theorem dX5_secondarySpectrum_74 : decode cX5_secondarySpectrum 74 = .ok (.lmul, 1) := by decide +kernel
theorem dX5_secondarySpectrum_75 : decode cX5_secondarySpectrum 75 = .ok (.lload 4, 2) := by decide +kernel
theorem dX5_secondarySpectrum_77 : decode cX5_secondarySpectrum 77 = .ok (.invokestatic 132, 3) := by decide +kernel
theorem dX5_secondarySpectrum_80 : decode cX5_secondarySpectrum 80 = .ok (.lreturn, 1) := by decide +kernel
set_option maxRecDepth 20000 in
theorem ggX5_doubletAt_X1_collect : GoodIn wsX5_doubletAt wsX1_collect := goodIn_r _ [8, 9, 10, 11, 12, 13, 14, 15, 16, 17, 18, 19, 20, 21, 22, 23, 24, 25, 26, 27, 28, 29, 7, 30, 31, 32, 33, 34, 35, 36, 37, 38, 39, 40, 41, 42, 43, 44, 45, 46, 47, 48, 75, 76, 77, 78, 79, 80, 81, 82, 83, 84, 85] (by decide +kernel) (by decide +kernel)
set_option maxRecDepth 20000 in
theorem gX5_doubletAt_X1_collect : GoodIn wsX5_doubletAt (wsV RX5 157 RX1 yX1_collect wsX1_collect) := goodIn_app (goodIn_of _ (by decide +kernel)) ggX5_doubletAt_X1_collect
set_option maxRecDepth 20000 in
theorem ggX5_doubletAt_X1_rank : GoodIn wsX5_doubletAt wsX1_rank := goodIn_r _ [52, 9, 53, 54, 55, 56, 7, 57, 58, 59, 60, 61, 33, 32, 38, 62, 63, 64, 65, 75, 76, 77, 78, 79, 80] (by decide +kernel) (by decide +kernel)
set_option maxRecDepth 20000 in
theorem gX5_doubletAt_X1_rank : GoodIn wsX5_doubletAt (wsV RX5 162 RX1 yX1_rank wsX1_rank) := goodIn_app (goodIn_of _ (by decide +kernel)) ggX5_doubletAt_X1_rank
set_option maxRecDepth 20000 in
theorem ggX5_doubletAt_X1_codeAt : GoodIn wsX5_doubletAt wsX1_codeAt := goodIn_r _ [69, 31, 53, 75, 76, 77, 78, 79, 80] (by decide +kernel) (by decide +kernel)
set_option maxRecDepth 20000 in
theorem gX5_doubletAt_X1_codeAt : GoodIn wsX5_doubletAt (wsV RX5 166 RX1 yX1_codeAt wsX1_codeAt) := goodIn_app (goodIn_of _ (by decide +kernel)) ggX5_doubletAt_X1_codeAt
theorem dX5_doubletAt_0 : decode cX5_doubletAt 0 = .ok (.aload_n 0, 1) := by decide +kernel
theorem dX5_doubletAt_1 : decode cX5_doubletAt 1 = .ok (.getfield 26, 3) := by decide +kernel
theorem dX5_doubletAt_4 : decode cX5_doubletAt 4 = .ok (.aload_n 0, 1) := by decide +kernel
theorem dX5_doubletAt_5 : decode cX5_doubletAt 5 = .ok (.getfield 19, 3) := by decide +kernel
theorem dX5_doubletAt_8 : decode cX5_doubletAt 8 = .ok (.invokevirtual 157, 3) := by decide +kernel
theorem dX5_doubletAt_11 : decode cX5_doubletAt 11 = .ok (.iload_n 2, 1) := by decide +kernel
theorem dX5_doubletAt_12 : decode cX5_doubletAt 12 = .ok (.ifCond .lt 14, 3) := by decide +kernel
theorem dX5_doubletAt_15 : decode cX5_doubletAt 15 = .ok (.iload_n 2, 1) := by decide +kernel
theorem dX5_doubletAt_16 : decode cX5_doubletAt 16 = .ok (.aload_n 0, 1) := by decide +kernel
theorem dX5_doubletAt_17 : decode cX5_doubletAt 17 = .ok (.getfield 26, 3) := by decide +kernel
theorem dX5_doubletAt_20 : decode cX5_doubletAt 20 = .ok (.getfield 161, 3) := by decide +kernel
theorem dX5_doubletAt_23 : decode cX5_doubletAt 23 = .ok (.if_icmp .lt 7, 3) := by decide +kernel
theorem dX5_doubletAt_26 : decode cX5_doubletAt 26 = .ok (.ldc2_w 139, 3) := by decide +kernel
theorem dX5_doubletAt_29 : decode cX5_doubletAt 29 = .ok (.lreturn, 1) := by decide +kernel
theorem dX5_doubletAt_30 : decode cX5_doubletAt 30 = .ok (.aload_n 0, 1) := by decide +kernel
theorem dX5_doubletAt_31 : decode cX5_doubletAt 31 = .ok (.getfield 26, 3) := by decide +kernel
theorem dX5_doubletAt_34 : decode cX5_doubletAt 34 = .ok (.iload_n 1, 1) := by decide +kernel
theorem dX5_doubletAt_35 : decode cX5_doubletAt 35 = .ok (.invokevirtual 162, 3) := by decide +kernel
theorem dX5_doubletAt_38 : decode cX5_doubletAt 38 = .ok (.aload_n 0, 1) := by decide +kernel
theorem dX5_doubletAt_39 : decode cX5_doubletAt 39 = .ok (.getfield 26, 3) := by decide +kernel
theorem dX5_doubletAt_42 : decode cX5_doubletAt 42 = .ok (.iload_n 2, 1) := by decide +kernel
theorem dX5_doubletAt_43 : decode cX5_doubletAt 43 = .ok (.invokevirtual 166, 3) := by decide +kernel
theorem dX5_doubletAt_46 : decode cX5_doubletAt 46 = .ok (.i2l, 1) := by decide +kernel
theorem dX5_doubletAt_47 : decode cX5_doubletAt 47 = .ok (.lreturn, 1) := by decide +kernel
set_option maxRecDepth 20000 in
theorem ggX5_doubletCount_X1_collect : GoodIn wsX5_doubletCount wsX1_collect := goodIn_r _ [7, 8, 9, 10, 11, 12, 13, 14, 15, 16, 17, 18, 19, 20, 21, 22, 23, 24, 25, 26, 27, 28, 6, 29, 30, 31, 32, 33, 34, 35, 36, 37, 38, 39, 40, 41, 42, 43, 44, 45, 46, 47, 53, 54, 55, 56, 57, 58, 59, 60, 61, 62, 63] (by decide +kernel) (by decide +kernel)
set_option maxRecDepth 20000 in
theorem gX5_doubletCount_X1_collect : GoodIn wsX5_doubletCount (wsV RX5 157 RX1 yX1_collect wsX1_collect) := goodIn_app (goodIn_of _ (by decide +kernel)) ggX5_doubletCount_X1_collect
theorem dX5_doubletCount_0 : decode cX5_doubletCount 0 = .ok (.aload_n 0, 1) := by decide +kernel
theorem dX5_doubletCount_1 : decode cX5_doubletCount 1 = .ok (.getfield 26, 3) := by decide +kernel
theorem dX5_doubletCount_4 : decode cX5_doubletCount 4 = .ok (.aload_n 0, 1) := by decide +kernel
theorem dX5_doubletCount_5 : decode cX5_doubletCount 5 = .ok (.getfield 19, 3) := by decide +kernel
theorem dX5_doubletCount_8 : decode cX5_doubletCount 8 = .ok (.invokevirtual 157, 3) := by decide +kernel
theorem dX5_doubletCount_11 : decode cX5_doubletCount 11 = .ok (.aload_n 0, 1) := by decide +kernel
theorem dX5_doubletCount_12 : decode cX5_doubletCount 12 = .ok (.getfield 26, 3) := by decide +kernel
theorem dX5_doubletCount_15 : decode cX5_doubletCount 15 = .ok (.getfield 161, 3) := by decide +kernel
theorem dX5_doubletCount_18 : decode cX5_doubletCount 18 = .ok (.i2l, 1) := by decide +kernel
theorem dX5_doubletCount_19 : decode cX5_doubletCount 19 = .ok (.lreturn, 1) := by decide +kernel
set_option maxRecDepth 20000 in
theorem ggX5_tripletPower_X0_has : GoodIn wsX5_tripletPower wsX0_has := goodIn_r _ [10, 11, 52, 53, 54, 55, 56] (by decide +kernel) (by decide +kernel)
set_option maxRecDepth 20000 in
theorem gX5_tripletPower_X0_has : GoodIn wsX5_tripletPower (wsV RX5 93 RX0 yX0_has wsX0_has) := goodIn_app (goodIn_of _ (by decide +kernel)) ggX5_tripletPower_X0_has
set_option maxRecDepth 20000 in
theorem ggX5_tripletPower_X5_isDesignPower : GoodIn wsX5_tripletPower wsX5_isDesignPower := goodIn_r _ [15] (by decide +kernel) (by decide +kernel)
set_option maxRecDepth 20000 in
theorem gX5_tripletPower_X5_isDesignPower : GoodIn wsX5_tripletPower (va_wsS RX5 141 yX5_isDesignPower wsX5_isDesignPower) := goodIn_app (goodIn_of _ (by decide +kernel)) ggX5_tripletPower_X5_isDesignPower
set_option maxRecDepth 20000 in
theorem ggX5_tripletPower_X0_tripletShare : GoodIn wsX5_tripletPower wsX0_tripletShare := goodIn_r _ [19, 20, 21, 22, 9, 23, 24, 25, 26, 27, 28, 29, 30, 31, 32, 33, 34, 35, 36, 37, 38, 39, 52, 53, 54, 55, 56] (by decide +kernel) (by decide +kernel)
set_option maxRecDepth 20000 in
theorem gX5_tripletPower_X0_tripletShare : GoodIn wsX5_tripletPower (wsV RX5 169 RX0 yX0_tripletShare wsX0_tripletShare) := goodIn_app (goodIn_of _ (by decide +kernel)) ggX5_tripletPower_X0_tripletShare
set_option maxRecDepth 20000 in
theorem ggX5_tripletPower_X5_floorQuotient : GoodIn wsX5_tripletPower wsX5_floorQuotient := goodIn_r _ [42, 43, 44, 45, 46] (by decide +kernel) (by decide +kernel)
set_option maxRecDepth 20000 in
theorem gX5_tripletPower_X5_floorQuotient : GoodIn wsX5_tripletPower (va_wsS RX5 132 yX5_floorQuotient wsX5_floorQuotient) := goodIn_app (goodIn_of _ (by decide +kernel)) ggX5_tripletPower_X5_floorQuotient
theorem dX5_tripletPower_0 : decode cX5_tripletPower 0 = .ok (.aload_n 0, 1) := by decide +kernel
theorem dX5_tripletPower_1 : decode cX5_tripletPower 1 = .ok (.getfield 19, 3) := by decide +kernel
theorem dX5_tripletPower_4 : decode cX5_tripletPower 4 = .ok (.iload_n 1, 1) := by decide +kernel
theorem dX5_tripletPower_5 : decode cX5_tripletPower 5 = .ok (.invokevirtual 93, 3) := by decide +kernel
theorem dX5_tripletPower_8 : decode cX5_tripletPower 8 = .ok (.ifCond .eq 25, 3) := by decide +kernel
theorem dX5_tripletPower_11 : decode cX5_tripletPower 11 = .ok (.aload_n 0, 1) := by decide +kernel
theorem dX5_tripletPower_12 : decode cX5_tripletPower 12 = .ok (.getfield 19, 3) := by decide +kernel
theorem dX5_tripletPower_15 : decode cX5_tripletPower 15 = .ok (.iload_n 2, 1) := by decide +kernel
theorem dX5_tripletPower_16 : decode cX5_tripletPower 16 = .ok (.invokevirtual 93, 3) := by decide +kernel
theorem dX5_tripletPower_19 : decode cX5_tripletPower 19 = .ok (.ifCond .eq 14, 3) := by decide +kernel
theorem dX5_tripletPower_22 : decode cX5_tripletPower 22 = .ok (.aload_n 0, 1) := by decide +kernel
theorem dX5_tripletPower_23 : decode cX5_tripletPower 23 = .ok (.getfield 19, 3) := by decide +kernel
theorem dX5_tripletPower_26 : decode cX5_tripletPower 26 = .ok (.iload_n 3, 1) := by decide +kernel
theorem dX5_tripletPower_27 : decode cX5_tripletPower 27 = .ok (.invokevirtual 93, 3) := by decide +kernel
theorem dX5_tripletPower_30 : decode cX5_tripletPower 30 = .ok (.ifCond .ne 7, 3) := by decide +kernel
theorem dX5_tripletPower_33 : decode cX5_tripletPower 33 = .ok (.ldc2_w 97, 3) := by decide +kernel
theorem dX5_tripletPower_36 : decode cX5_tripletPower 36 = .ok (.lreturn, 1) := by decide +kernel
theorem dX5_tripletPower_37 : decode cX5_tripletPower 37 = .ok (.iload_n 1, 1) := by decide +kernel
theorem dX5_tripletPower_38 : decode cX5_tripletPower 38 = .ok (.iload_n 2, 1) := by decide +kernel
theorem dX5_tripletPower_39 : decode cX5_tripletPower 39 = .ok (.if_icmp .eq 13, 3) := by decide +kernel
theorem dX5_tripletPower_42 : decode cX5_tripletPower 42 = .ok (.iload_n 2, 1) := by decide +kernel
theorem dX5_tripletPower_43 : decode cX5_tripletPower 43 = .ok (.iload_n 3, 1) := by decide +kernel
theorem dX5_tripletPower_44 : decode cX5_tripletPower 44 = .ok (.if_icmp .eq 8, 3) := by decide +kernel
theorem dX5_tripletPower_47 : decode cX5_tripletPower 47 = .ok (.iload_n 3, 1) := by decide +kernel
theorem dX5_tripletPower_48 : decode cX5_tripletPower 48 = .ok (.iload_n 1, 1) := by decide +kernel
theorem dX5_tripletPower_49 : decode cX5_tripletPower 49 = .ok (.if_icmp .ne 7, 3) := by decide +kernel
theorem dX5_tripletPower_52 : decode cX5_tripletPower 52 = .ok (.ldc2_w 88, 3) := by decide +kernel
theorem dX5_tripletPower_55 : decode cX5_tripletPower 55 = .ok (.lreturn, 1) := by decide +kernel
theorem dX5_tripletPower_56 : decode cX5_tripletPower 56 = .ok (.iload 4, 2) := by decide +kernel
theorem dX5_tripletPower_58 : decode cX5_tripletPower 58 = .ok (.invokestatic 141, 3) := by decide +kernel
theorem dX5_tripletPower_61 : decode cX5_tripletPower 61 = .ok (.ifCond .eq 14, 3) := by decide +kernel
theorem dX5_tripletPower_64 : decode cX5_tripletPower 64 = .ok (.iload 5, 2) := by decide +kernel
theorem dX5_tripletPower_66 : decode cX5_tripletPower 66 = .ok (.ifCond .lt 9, 3) := by decide +kernel
theorem dX5_tripletPower_69 : decode cX5_tripletPower 69 = .ok (.iload 5, 2) := by decide +kernel
theorem dX5_tripletPower_71 : decode cX5_tripletPower 71 = .ok (.iconst 2, 1) := by decide +kernel
theorem dX5_tripletPower_72 : decode cX5_tripletPower 72 = .ok (.if_icmp .le 7, 3) := by decide +kernel
theorem dX5_tripletPower_75 : decode cX5_tripletPower 75 = .ok (.ldc2_w 44, 3) := by decide +kernel
theorem dX5_tripletPower_78 : decode cX5_tripletPower 78 = .ok (.lreturn, 1) := by decide +kernel
theorem dX5_tripletPower_79 : decode cX5_tripletPower 79 = .ok (.aload_n 0, 1) := by decide +kernel
theorem dX5_tripletPower_80 : decode cX5_tripletPower 80 = .ok (.getfield 19, 3) := by decide +kernel
theorem dX5_tripletPower_83 : decode cX5_tripletPower 83 = .ok (.iload_n 1, 1) := by decide +kernel
theorem dX5_tripletPower_84 : decode cX5_tripletPower 84 = .ok (.iload_n 2, 1) := by decide +kernel
theorem dX5_tripletPower_85 : decode cX5_tripletPower 85 = .ok (.iload_n 3, 1) := by decide +kernel
theorem dX5_tripletPower_86 : decode cX5_tripletPower 86 = .ok (.invokevirtual 169, 3) := by decide +kernel
theorem dX5_tripletPower_89 : decode cX5_tripletPower 89 = .ok (.lstore 6, 2) := by decide +kernel
theorem dX5_tripletPower_91 : decode cX5_tripletPower 91 = .ok (.aload_n 0, 1) := by decide +kernel
theorem dX5_tripletPower_92 : decode cX5_tripletPower 92 = .ok (.getfield 19, 3) := by decide +kernel
theorem dX5_tripletPower_95 : decode cX5_tripletPower 95 = .ok (.iload_n 2, 1) := by decide +kernel
theorem dX5_tripletPower_96 : decode cX5_tripletPower 96 = .ok (.iload_n 3, 1) := by decide +kernel
theorem dX5_tripletPower_97 : decode cX5_tripletPower 97 = .ok (.iload_n 1, 1) := by decide +kernel
theorem dX5_tripletPower_98 : decode cX5_tripletPower 98 = .ok (.invokevirtual 169, 3) := by decide +kernel
theorem dX5_tripletPower_101 : decode cX5_tripletPower 101 = .ok (.lstore 8, 2) := by decide +kernel
theorem dX5_tripletPower_103 : decode cX5_tripletPower 103 = .ok (.aload_n 0, 1) := by decide +kernel
theorem dX5_tripletPower_104 : decode cX5_tripletPower 104 = .ok (.getfield 19, 3) := by decide +kernel
theorem dX5_tripletPower_107 : decode cX5_tripletPower 107 = .ok (.iload_n 3, 1) := by decide +kernel
theorem dX5_tripletPower_108 : decode cX5_tripletPower 108 = .ok (.iload_n 1, 1) := by decide +kernel
theorem dX5_tripletPower_109 : decode cX5_tripletPower 109 = .ok (.iload_n 2, 1) := by decide +kernel
theorem dX5_tripletPower_110 : decode cX5_tripletPower 110 = .ok (.invokevirtual 169, 3) := by decide +kernel
theorem dX5_tripletPower_113 : decode cX5_tripletPower 113 = .ok (.lstore 10, 2) := by decide +kernel
theorem dX5_tripletPower_115 : decode cX5_tripletPower 115 = .ok (.lload 6, 2) := by decide +kernel
theorem dX5_tripletPower_117 : decode cX5_tripletPower 117 = .ok (.lload 8, 2) := by decide +kernel
theorem dX5_tripletPower_119 : decode cX5_tripletPower 119 = .ok (.ladd, 1) := by decide +kernel
theorem dX5_tripletPower_120 : decode cX5_tripletPower 120 = .ok (.lload 10, 2) := by decide +kernel
theorem dX5_tripletPower_122 : decode cX5_tripletPower 122 = .ok (.ladd, 1) := by decide +kernel
theorem dX5_tripletPower_123 : decode cX5_tripletPower 123 = .ok (.lstore 12, 2) := by decide +kernel
theorem dX5_tripletPower_125 : decode cX5_tripletPower 125 = .ok (.lload 12, 2) := by decide +kernel
theorem dX5_tripletPower_127 : decode cX5_tripletPower 127 = .ok (.lconst 0, 1) := by decide +kernel
theorem dX5_tripletPower_128 : decode cX5_tripletPower 128 = .ok (.lcmp, 1) := by decide +kernel
theorem dX5_tripletPower_129 : decode cX5_tripletPower 129 = .ok (.ifCond .ne 7, 3) := by decide +kernel
theorem dX5_tripletPower_132 : decode cX5_tripletPower 132 = .ok (.ldc2_w 139, 3) := by decide +kernel
theorem dX5_tripletPower_135 : decode cX5_tripletPower 135 = .ok (.lreturn, 1) := by decide +kernel
theorem dX5_tripletPower_136 : decode cX5_tripletPower 136 = .ok (.iload 5, 2) := by decide +kernel
theorem dX5_tripletPower_138 : decode cX5_tripletPower 138 = .ok (.ifCond .ne 8, 3) := by decide +kernel
theorem dX5_tripletPower_141 : decode cX5_tripletPower 141 = .ok (.lload 6, 2) := by decide +kernel
theorem dX5_tripletPower_143 : decode cX5_tripletPower 143 = .ok (.goto 16, 3) := by decide +kernel
theorem dX5_tripletPower_146 : decode cX5_tripletPower 146 = .ok (.iload 5, 2) := by decide +kernel
theorem dX5_tripletPower_148 : decode cX5_tripletPower 148 = .ok (.iconst 1, 1) := by decide +kernel
theorem dX5_tripletPower_149 : decode cX5_tripletPower 149 = .ok (.if_icmp .ne 8, 3) := by decide +kernel
theorem dX5_tripletPower_152 : decode cX5_tripletPower 152 = .ok (.lload 8, 2) := by decide +kernel
theorem dX5_tripletPower_154 : decode cX5_tripletPower 154 = .ok (.goto 5, 3) := by decide +kernel
theorem dX5_tripletPower_157 : decode cX5_tripletPower 157 = .ok (.lload 10, 2) := by decide +kernel
theorem dX5_tripletPower_159 : decode cX5_tripletPower 159 = .ok (.lstore 14, 2) := by decide +kernel
theorem dX5_tripletPower_161 : decode cX5_tripletPower 161 = .ok (.iload 4, 2) := by decide +kernel
theorem dX5_tripletPower_163 : decode cX5_tripletPower 163 = .ok (.i2l, 1) := by decide +kernel
theorem dX5_tripletPower_164 : decode cX5_tripletPower 164 = .ok (.lload 14, 2) := by decide +kernel
theorem dX5_tripletPower_166 : decode cX5_tripletPower 166 = .ok (.lmul, 1) := by decide +kernel
theorem dX5_tripletPower_167 : decode cX5_tripletPower 167 = .ok (.lload 12, 2) := by decide +kernel
theorem dX5_tripletPower_169 : decode cX5_tripletPower 169 = .ok (.invokestatic 132, 3) := by decide +kernel
theorem dX5_tripletPower_172 : decode cX5_tripletPower 172 = .ok (.lreturn, 1) := by decide +kernel
set_option maxRecDepth 20000 in
theorem ggX5_bestTriplet_X5_greatestTripletPower : GoodIn wsX5_bestTriplet wsX5_greatestTripletPower := goodIn_r _ [7, 2, 8, 9, 10, 11, 12, 13, 14, 15, 16, 17, 18, 19, 20, 21, 22, 23, 24, 25, 26, 27, 28, 29, 30, 31, 32, 33, 34, 35, 36, 37, 38, 39, 6, 40, 41, 42, 43, 44, 45, 46, 47, 48, 49, 50, 51, 52, 53, 54, 55, 56, 57, 58, 59, 60, 61] (by decide +kernel) (by decide +kernel)
set_option maxRecDepth 20000 in
theorem gX5_bestTriplet_X5_greatestTripletPower : GoodIn wsX5_bestTriplet (wsV RX5 173 RX5 yX5_greatestTripletPower wsX5_greatestTripletPower) := goodIn_app (goodIn_of _ (by decide +kernel)) ggX5_bestTriplet_X5_greatestTripletPower
theorem dX5_bestTriplet_0 : decode cX5_bestTriplet 0 = .ok (.ldc2_w 139, 3) := by decide +kernel
theorem dX5_bestTriplet_3 : decode cX5_bestTriplet 3 = .ok (.lstore_n 1, 1) := by decide +kernel
theorem dX5_bestTriplet_4 : decode cX5_bestTriplet 4 = .ok (.lconst 0, 1) := by decide +kernel
theorem dX5_bestTriplet_5 : decode cX5_bestTriplet 5 = .ok (.lstore_n 3, 1) := by decide +kernel
theorem dX5_bestTriplet_6 : decode cX5_bestTriplet 6 = .ok (.iconst 0, 1) := by decide +kernel
theorem dX5_bestTriplet_7 : decode cX5_bestTriplet 7 = .ok (.istore 5, 2) := by decide +kernel
theorem dX5_bestTriplet_9 : decode cX5_bestTriplet 9 = .ok (.iload 5, 2) := by decide +kernel
theorem dX5_bestTriplet_11 : decode cX5_bestTriplet 11 = .ok (.aload_n 0, 1) := by decide +kernel
theorem dX5_bestTriplet_12 : decode cX5_bestTriplet 12 = .ok (.getfield 19, 3) := by decide +kernel
theorem dX5_bestTriplet_15 : decode cX5_bestTriplet 15 = .ok (.getfield 77, 3) := by decide +kernel
theorem dX5_bestTriplet_18 : decode cX5_bestTriplet 18 = .ok (.if_icmp .ge 111, 3) := by decide +kernel
theorem dX5_bestTriplet_21 : decode cX5_bestTriplet 21 = .ok (.iload 5, 2) := by decide +kernel
theorem dX5_bestTriplet_23 : decode cX5_bestTriplet 23 = .ok (.iconst 1, 1) := by decide +kernel
theorem dX5_bestTriplet_24 : decode cX5_bestTriplet 24 = .ok (.iadd, 1) := by decide +kernel
theorem dX5_bestTriplet_25 : decode cX5_bestTriplet 25 = .ok (.istore 6, 2) := by decide +kernel
theorem dX5_bestTriplet_27 : decode cX5_bestTriplet 27 = .ok (.iload 6, 2) := by decide +kernel
theorem dX5_bestTriplet_29 : decode cX5_bestTriplet 29 = .ok (.aload_n 0, 1) := by decide +kernel
theorem dX5_bestTriplet_30 : decode cX5_bestTriplet 30 = .ok (.getfield 19, 3) := by decide +kernel
theorem dX5_bestTriplet_33 : decode cX5_bestTriplet 33 = .ok (.getfield 77, 3) := by decide +kernel
theorem dX5_bestTriplet_36 : decode cX5_bestTriplet 36 = .ok (.if_icmp .ge 87, 3) := by decide +kernel
theorem dX5_bestTriplet_39 : decode cX5_bestTriplet 39 = .ok (.iload 6, 2) := by decide +kernel
theorem dX5_bestTriplet_41 : decode cX5_bestTriplet 41 = .ok (.iconst 1, 1) := by decide +kernel
theorem dX5_bestTriplet_42 : decode cX5_bestTriplet 42 = .ok (.iadd, 1) := by decide +kernel
theorem dX5_bestTriplet_43 : decode cX5_bestTriplet 43 = .ok (.istore 7, 2) := by decide +kernel
theorem dX5_bestTriplet_45 : decode cX5_bestTriplet 45 = .ok (.iload 7, 2) := by decide +kernel
theorem dX5_bestTriplet_47 : decode cX5_bestTriplet 47 = .ok (.aload_n 0, 1) := by decide +kernel
theorem dX5_bestTriplet_48 : decode cX5_bestTriplet 48 = .ok (.getfield 19, 3) := by decide +kernel
theorem dX5_bestTriplet_51 : decode cX5_bestTriplet 51 = .ok (.getfield 77, 3) := by decide +kernel
theorem dX5_bestTriplet_54 : decode cX5_bestTriplet 54 = .ok (.if_icmp .ge 63, 3) := by decide +kernel
theorem dX5_bestTriplet_57 : decode cX5_bestTriplet 57 = .ok (.aload_n 0, 1) := by decide +kernel
theorem dX5_bestTriplet_58 : decode cX5_bestTriplet 58 = .ok (.iload 5, 2) := by decide +kernel
theorem dX5_bestTriplet_60 : decode cX5_bestTriplet 60 = .ok (.iload 6, 2) := by decide +kernel
theorem dX5_bestTriplet_62 : decode cX5_bestTriplet 62 = .ok (.iload 7, 2) := by decide +kernel
theorem dX5_bestTriplet_64 : decode cX5_bestTriplet 64 = .ok (.invokevirtual 173, 3) := by decide +kernel
theorem dX5_bestTriplet_67 : decode cX5_bestTriplet 67 = .ok (.lstore 8, 2) := by decide +kernel
theorem dX5_bestTriplet_69 : decode cX5_bestTriplet 69 = .ok (.lload 8, 2) := by decide +kernel
theorem dX5_bestTriplet_71 : decode cX5_bestTriplet 71 = .ok (.lconst 0, 1) := by decide +kernel
theorem dX5_bestTriplet_72 : decode cX5_bestTriplet 72 = .ok (.lcmp, 1) := by decide +kernel
theorem dX5_bestTriplet_73 : decode cX5_bestTriplet 73 = .ok (.ifCond .lt 38, 3) := by decide +kernel
theorem dX5_bestTriplet_76 : decode cX5_bestTriplet 76 = .ok (.lload_n 1, 1) := by decide +kernel
theorem dX5_bestTriplet_77 : decode cX5_bestTriplet 77 = .ok (.ldc2_w 139, 3) := by decide +kernel
theorem dX5_bestTriplet_80 : decode cX5_bestTriplet 80 = .ok (.lcmp, 1) := by decide +kernel
theorem dX5_bestTriplet_81 : decode cX5_bestTriplet 81 = .ok (.ifCond .eq 10, 3) := by decide +kernel
theorem dX5_bestTriplet_84 : decode cX5_bestTriplet 84 = .ok (.lload 8, 2) := by decide +kernel
theorem dX5_bestTriplet_86 : decode cX5_bestTriplet 86 = .ok (.lload_n 3, 1) := by decide +kernel
theorem dX5_bestTriplet_87 : decode cX5_bestTriplet 87 = .ok (.lcmp, 1) := by decide +kernel
theorem dX5_bestTriplet_88 : decode cX5_bestTriplet 88 = .ok (.ifCond .ge 23, 3) := by decide +kernel
theorem dX5_bestTriplet_91 : decode cX5_bestTriplet 91 = .ok (.sipush 10000, 3) := by decide +kernel
theorem dX5_bestTriplet_94 : decode cX5_bestTriplet 94 = .ok (.iload 5, 2) := by decide +kernel
theorem dX5_bestTriplet_96 : decode cX5_bestTriplet 96 = .ok (.imul, 1) := by decide +kernel
theorem dX5_bestTriplet_97 : decode cX5_bestTriplet 97 = .ok (.bipush 100, 2) := by decide +kernel
theorem dX5_bestTriplet_99 : decode cX5_bestTriplet 99 = .ok (.iload 6, 2) := by decide +kernel
theorem dX5_bestTriplet_101 : decode cX5_bestTriplet 101 = .ok (.imul, 1) := by decide +kernel
theorem dX5_bestTriplet_102 : decode cX5_bestTriplet 102 = .ok (.iadd, 1) := by decide +kernel
theorem dX5_bestTriplet_103 : decode cX5_bestTriplet 103 = .ok (.iload 7, 2) := by decide +kernel
theorem dX5_bestTriplet_105 : decode cX5_bestTriplet 105 = .ok (.iadd, 1) := by decide +kernel
theorem dX5_bestTriplet_106 : decode cX5_bestTriplet 106 = .ok (.i2l, 1) := by decide +kernel
theorem dX5_bestTriplet_107 : decode cX5_bestTriplet 107 = .ok (.lstore_n 1, 1) := by decide +kernel
theorem dX5_bestTriplet_108 : decode cX5_bestTriplet 108 = .ok (.lload 8, 2) := by decide +kernel
theorem dX5_bestTriplet_110 : decode cX5_bestTriplet 110 = .ok (.lstore_n 3, 1) := by decide +kernel
theorem dX5_bestTriplet_111 : decode cX5_bestTriplet 111 = .ok (.iinc 7 1, 3) := by decide +kernel
theorem dX5_bestTriplet_114 : decode cX5_bestTriplet 114 = .ok (.goto (-69), 3) := by decide +kernel
theorem dX5_bestTriplet_117 : decode cX5_bestTriplet 117 = .ok (.iinc 6 1, 3) := by decide +kernel
theorem dX5_bestTriplet_120 : decode cX5_bestTriplet 120 = .ok (.goto (-93), 3) := by decide +kernel
theorem dX5_bestTriplet_123 : decode cX5_bestTriplet 123 = .ok (.iinc 5 1, 3) := by decide +kernel
theorem dX5_bestTriplet_126 : decode cX5_bestTriplet 126 = .ok (.goto (-117), 3) := by decide +kernel
theorem dX5_bestTriplet_129 : decode cX5_bestTriplet 129 = .ok (.lload_n 1, 1) := by decide +kernel
theorem dX5_bestTriplet_130 : decode cX5_bestTriplet 130 = .ok (.lreturn, 1) := by decide +kernel
set_option maxRecDepth 20000 in
theorem ggX5_addLens_X0_has : GoodIn wsX5_addLens wsX0_has := goodIn_r _ [12, 13, 30, 31, 32, 33, 34] (by decide +kernel) (by decide +kernel)
set_option maxRecDepth 20000 in
theorem gX5_addLens_X0_has : GoodIn wsX5_addLens (wsV RX5 93 RX0 yX0_has wsX0_has) := goodIn_app (goodIn_of _ (by decide +kernel)) ggX5_addLens_X0_has
set_option maxRecDepth 20000 in
theorem ggX5_addLens_X3_add : GoodIn wsX5_addLens wsX3_add := goodIn_r _ [18, 19, 20, 21, 27, 28, 29] (by decide +kernel) (by decide +kernel)
set_option maxRecDepth 20000 in
theorem gX5_addLens_X3_add : GoodIn wsX5_addLens (wsV RX5 179 RX3 yX3_add wsX3_add) := goodIn_app (goodIn_of _ (by decide +kernel)) ggX5_addLens_X3_add
theorem dX5_addLens_0 : decode cX5_addLens 0 = .ok (.aload_n 0, 1) := by decide +kernel
theorem dX5_addLens_1 : decode cX5_addLens 1 = .ok (.getfield 19, 3) := by decide +kernel
theorem dX5_addLens_4 : decode cX5_addLens 4 = .ok (.iload_n 1, 1) := by decide +kernel
theorem dX5_addLens_5 : decode cX5_addLens 5 = .ok (.invokevirtual 93, 3) := by decide +kernel
theorem dX5_addLens_8 : decode cX5_addLens 8 = .ok (.ifCond .ne 7, 3) := by decide +kernel
theorem dX5_addLens_11 : decode cX5_addLens 11 = .ok (.ldc2_w 97, 3) := by decide +kernel
theorem dX5_addLens_14 : decode cX5_addLens 14 = .ok (.lreturn, 1) := by decide +kernel
theorem dX5_addLens_15 : decode cX5_addLens 15 = .ok (.iload_n 2, 1) := by decide +kernel
theorem dX5_addLens_16 : decode cX5_addLens 16 = .ok (.ldc 176, 2) := by decide +kernel
theorem dX5_addLens_18 : decode cX5_addLens 18 = .ok (.if_icmp .lt 9, 3) := by decide +kernel
theorem dX5_addLens_21 : decode cX5_addLens 21 = .ok (.iload_n 2, 1) := by decide +kernel
theorem dX5_addLens_22 : decode cX5_addLens 22 = .ok (.ldc 177, 2) := by decide +kernel
theorem dX5_addLens_24 : decode cX5_addLens 24 = .ok (.if_icmp .le 7, 3) := by decide +kernel
theorem dX5_addLens_27 : decode cX5_addLens 27 = .ok (.ldc2_w 44, 3) := by decide +kernel
theorem dX5_addLens_30 : decode cX5_addLens 30 = .ok (.lreturn, 1) := by decide +kernel
theorem dX5_addLens_31 : decode cX5_addLens 31 = .ok (.aload_n 0, 1) := by decide +kernel
theorem dX5_addLens_32 : decode cX5_addLens 32 = .ok (.getfield 33, 3) := by decide +kernel
theorem dX5_addLens_35 : decode cX5_addLens 35 = .ok (.getfield 178, 3) := by decide +kernel
theorem dX5_addLens_38 : decode cX5_addLens 38 = .ok (.bipush 8, 2) := by decide +kernel
theorem dX5_addLens_40 : decode cX5_addLens 40 = .ok (.if_icmp .ne 7, 3) := by decide +kernel
theorem dX5_addLens_43 : decode cX5_addLens 43 = .ok (.ldc2_w 50, 3) := by decide +kernel
theorem dX5_addLens_46 : decode cX5_addLens 46 = .ok (.lreturn, 1) := by decide +kernel
theorem dX5_addLens_47 : decode cX5_addLens 47 = .ok (.aload_n 0, 1) := by decide +kernel
theorem dX5_addLens_48 : decode cX5_addLens 48 = .ok (.getfield 33, 3) := by decide +kernel
theorem dX5_addLens_51 : decode cX5_addLens 51 = .ok (.iload_n 1, 1) := by decide +kernel
theorem dX5_addLens_52 : decode cX5_addLens 52 = .ok (.iload_n 2, 1) := by decide +kernel
theorem dX5_addLens_53 : decode cX5_addLens 53 = .ok (.invokevirtual 179, 3) := by decide +kernel
theorem dX5_addLens_56 : decode cX5_addLens 56 = .ok (.aload_n 0, 1) := by decide +kernel
theorem dX5_addLens_57 : decode cX5_addLens 57 = .ok (.getfield 33, 3) := by decide +kernel
theorem dX5_addLens_60 : decode cX5_addLens 60 = .ok (.getfield 178, 3) := by decide +kernel
theorem dX5_addLens_63 : decode cX5_addLens 63 = .ok (.iconst 1, 1) := by decide +kernel
theorem dX5_addLens_64 : decode cX5_addLens 64 = .ok (.isub, 1) := by decide +kernel
theorem dX5_addLens_65 : decode cX5_addLens 65 = .ok (.i2l, 1) := by decide +kernel
theorem dX5_addLens_66 : decode cX5_addLens 66 = .ok (.lreturn, 1) := by decide +kernel
set_option maxRecDepth 20000 in
theorem ggX5_removeLens_X3_has : GoodIn wsX5_removeLens wsX3_has := goodIn_r _ [7, 8, 21, 22, 23] (by decide +kernel) (by decide +kernel)
set_option maxRecDepth 20000 in
theorem gX5_removeLens_X3_has : GoodIn wsX5_removeLens (wsV RX5 182 RX3 yX3_has wsX3_has) := goodIn_app (goodIn_of _ (by decide +kernel)) ggX5_removeLens_X3_has
set_option maxRecDepth 20000 in
theorem ggX5_removeLens_X3_remove : GoodIn wsX5_removeLens wsX3_remove := goodIn_r _ [12, 8, 13, 14, 15, 4, 5, 6, 7, 21, 22, 23] (by decide +kernel) (by decide +kernel)
set_option maxRecDepth 20000 in
theorem gX5_removeLens_X3_remove : GoodIn wsX5_removeLens (wsV RX5 185 RX3 yX3_remove wsX3_remove) := goodIn_app (goodIn_of _ (by decide +kernel)) ggX5_removeLens_X3_remove
theorem dX5_removeLens_0 : decode cX5_removeLens 0 = .ok (.aload_n 0, 1) := by decide +kernel
theorem dX5_removeLens_1 : decode cX5_removeLens 1 = .ok (.getfield 33, 3) := by decide +kernel
theorem dX5_removeLens_4 : decode cX5_removeLens 4 = .ok (.iload_n 1, 1) := by decide +kernel
theorem dX5_removeLens_5 : decode cX5_removeLens 5 = .ok (.invokevirtual 182, 3) := by decide +kernel
theorem dX5_removeLens_8 : decode cX5_removeLens 8 = .ok (.ifCond .ne 7, 3) := by decide +kernel
theorem dX5_removeLens_11 : decode cX5_removeLens 11 = .ok (.ldc2_w 183, 3) := by decide +kernel
theorem dX5_removeLens_14 : decode cX5_removeLens 14 = .ok (.lreturn, 1) := by decide +kernel
theorem dX5_removeLens_15 : decode cX5_removeLens 15 = .ok (.aload_n 0, 1) := by decide +kernel
theorem dX5_removeLens_16 : decode cX5_removeLens 16 = .ok (.getfield 33, 3) := by decide +kernel
theorem dX5_removeLens_19 : decode cX5_removeLens 19 = .ok (.iload_n 1, 1) := by decide +kernel
theorem dX5_removeLens_20 : decode cX5_removeLens 20 = .ok (.invokevirtual 185, 3) := by decide +kernel
theorem dX5_removeLens_23 : decode cX5_removeLens 23 = .ok (.aload_n 0, 1) := by decide +kernel
theorem dX5_removeLens_24 : decode cX5_removeLens 24 = .ok (.getfield 33, 3) := by decide +kernel
theorem dX5_removeLens_27 : decode cX5_removeLens 27 = .ok (.getfield 178, 3) := by decide +kernel
theorem dX5_removeLens_30 : decode cX5_removeLens 30 = .ok (.i2l, 1) := by decide +kernel
theorem dX5_removeLens_31 : decode cX5_removeLens 31 = .ok (.lreturn, 1) := by decide +kernel
theorem dX5_lensCount_0 : decode cX5_lensCount 0 = .ok (.aload_n 0, 1) := by decide +kernel
theorem dX5_lensCount_1 : decode cX5_lensCount 1 = .ok (.getfield 33, 3) := by decide +kernel
theorem dX5_lensCount_4 : decode cX5_lensCount 4 = .ok (.getfield 178, 3) := by decide +kernel
theorem dX5_lensCount_7 : decode cX5_lensCount 7 = .ok (.i2l, 1) := by decide +kernel
theorem dX5_lensCount_8 : decode cX5_lensCount 8 = .ok (.lreturn, 1) := by decide +kernel
set_option maxRecDepth 20000 in
theorem ggX5_systemPower_X5_isColour : GoodIn wsX5_systemPower wsX5_isColour := goodIn_r _ [7] (by decide +kernel) (by decide +kernel)
set_option maxRecDepth 20000 in
theorem gX5_systemPower_X5_isColour : GoodIn wsX5_systemPower (va_wsS RX5 110 yX5_isColour wsX5_isColour) := goodIn_app (goodIn_of _ (by decide +kernel)) ggX5_systemPower_X5_isColour
set_option maxRecDepth 20000 in
theorem ggX5_systemPower_X3_powerFor : GoodIn wsX5_systemPower wsX3_powerFor := goodIn_r _ [12, 13, 14, 15, 16, 17, 11, 18, 19, 20, 21, 22, 23, 24, 25, 26, 27, 28, 29, 30, 31, 32, 33, 34, 35, 6, 36, 37, 38, 39, 40, 46, 47, 48, 49, 50, 51, 52, 53] (by decide +kernel) (by decide +kernel)
set_option maxRecDepth 20000 in
theorem gX5_systemPower_X3_powerFor : GoodIn wsX5_systemPower (wsV RX5 186 RX3 yX3_powerFor wsX3_powerFor) := goodIn_app (goodIn_of _ (by decide +kernel)) ggX5_systemPower_X3_powerFor
theorem dX5_systemPower_0 : decode cX5_systemPower 0 = .ok (.iload_n 1, 1) := by decide +kernel
theorem dX5_systemPower_1 : decode cX5_systemPower 1 = .ok (.invokestatic 110, 3) := by decide +kernel
theorem dX5_systemPower_4 : decode cX5_systemPower 4 = .ok (.ifCond .eq 18, 3) := by decide +kernel
theorem dX5_systemPower_7 : decode cX5_systemPower 7 = .ok (.aload_n 0, 1) := by decide +kernel
theorem dX5_systemPower_8 : decode cX5_systemPower 8 = .ok (.getfield 33, 3) := by decide +kernel
theorem dX5_systemPower_11 : decode cX5_systemPower 11 = .ok (.iload_n 1, 1) := by decide +kernel
theorem dX5_systemPower_12 : decode cX5_systemPower 12 = .ok (.aload_n 0, 1) := by decide +kernel
theorem dX5_systemPower_13 : decode cX5_systemPower 13 = .ok (.getfield 19, 3) := by decide +kernel
theorem dX5_systemPower_16 : decode cX5_systemPower 16 = .ok (.invokevirtual 186, 3) := by decide +kernel
theorem dX5_systemPower_19 : decode cX5_systemPower 19 = .ok (.goto 6, 3) := by decide +kernel
theorem dX5_systemPower_22 : decode cX5_systemPower 22 = .ok (.ldc2_w 44, 3) := by decide +kernel
theorem dX5_systemPower_25 : decode cX5_systemPower 25 = .ok (.lreturn, 1) := by decide +kernel
set_option maxRecDepth 20000 in
theorem ggX5_balancePower_X0_has : GoodIn wsX5_balancePower wsX0_has := goodIn_r _ [9, 10, 55, 56, 57, 58, 59] (by decide +kernel) (by decide +kernel)
set_option maxRecDepth 20000 in
theorem gX5_balancePower_X0_has : GoodIn wsX5_balancePower (wsV RX5 93 RX0 yX0_has wsX0_has) := goodIn_app (goodIn_of _ (by decide +kernel)) ggX5_balancePower_X0_has
set_option maxRecDepth 20000 in
theorem ggX5_balancePower_X3_powerFor : GoodIn wsX5_balancePower wsX3_powerFor := goodIn_r _ [15, 16, 17, 18, 19, 20, 14, 21, 22, 23, 24, 25, 26, 27, 8, 28, 29, 30, 31, 32, 33, 34, 35, 36, 37, 38, 39, 40, 41, 42, 43, 60, 61, 62, 55, 56, 57, 58, 59] (by decide +kernel) (by decide +kernel)
set_option maxRecDepth 20000 in
theorem gX5_balancePower_X3_powerFor : GoodIn wsX5_balancePower (wsV RX5 186 RX3 yX3_powerFor wsX3_powerFor) := goodIn_app (goodIn_of _ (by decide +kernel)) ggX5_balancePower_X3_powerFor
set_option maxRecDepth 20000 in
theorem ggX5_balancePower_X0_valueA : GoodIn wsX5_balancePower wsX0_valueA := goodIn_r _ [35, 30, 36, 55, 56, 57, 58, 59] (by decide +kernel) (by decide +kernel)
set_option maxRecDepth 20000 in
theorem gX5_balancePower_X0_valueA : GoodIn wsX5_balancePower (wsV RX5 147 RX0 yX0_valueA wsX0_valueA) := goodIn_app (goodIn_of _ (by decide +kernel)) ggX5_balancePower_X0_valueA
set_option maxRecDepth 20000 in
theorem ggX5_balancePower_X0_valueB : GoodIn wsX5_balancePower wsX0_valueB := goodIn_r _ [48, 29, 31, 55, 56, 57, 58, 59] (by decide +kernel) (by decide +kernel)
set_option maxRecDepth 20000 in
theorem gX5_balancePower_X0_valueB : GoodIn wsX5_balancePower (wsV RX5 129 RX0 yX0_valueB wsX0_valueB) := goodIn_app (goodIn_of _ (by decide +kernel)) ggX5_balancePower_X0_valueB
set_option maxRecDepth 20000 in
theorem ggX5_balancePower_X5_floorQuotient : GoodIn wsX5_balancePower wsX5_floorQuotient := goodIn_r _ [39, 40, 41, 42, 43] (by decide +kernel) (by decide +kernel)
set_option maxRecDepth 20000 in
theorem gX5_balancePower_X5_floorQuotient : GoodIn wsX5_balancePower (va_wsS RX5 132 yX5_floorQuotient wsX5_floorQuotient) := goodIn_app (goodIn_of _ (by decide +kernel)) ggX5_balancePower_X5_floorQuotient
theorem dX5_balancePower_0 : decode cX5_balancePower 0 = .ok (.aload_n 0, 1) := by decide +kernel
theorem dX5_balancePower_1 : decode cX5_balancePower 1 = .ok (.getfield 19, 3) := by decide +kernel
theorem dX5_balancePower_4 : decode cX5_balancePower 4 = .ok (.iload_n 1, 1) := by decide +kernel
theorem dX5_balancePower_5 : decode cX5_balancePower 5 = .ok (.invokevirtual 93, 3) := by decide +kernel
theorem dX5_balancePower_8 : decode cX5_balancePower 8 = .ok (.ifCond .ne 7, 3) := by decide +kernel
theorem dX5_balancePower_11 : decode cX5_balancePower 11 = .ok (.ldc2_w 97, 3) := by decide +kernel
theorem dX5_balancePower_14 : decode cX5_balancePower 14 = .ok (.lreturn, 1) := by decide +kernel
theorem dX5_balancePower_15 : decode cX5_balancePower 15 = .ok (.aload_n 0, 1) := by decide +kernel
theorem dX5_balancePower_16 : decode cX5_balancePower 16 = .ok (.getfield 33, 3) := by decide +kernel
theorem dX5_balancePower_19 : decode cX5_balancePower 19 = .ok (.iconst 0, 1) := by decide +kernel
theorem dX5_balancePower_20 : decode cX5_balancePower 20 = .ok (.aload_n 0, 1) := by decide +kernel
theorem dX5_balancePower_21 : decode cX5_balancePower 21 = .ok (.getfield 19, 3) := by decide +kernel
theorem dX5_balancePower_24 : decode cX5_balancePower 24 = .ok (.invokevirtual 186, 3) := by decide +kernel
theorem dX5_balancePower_27 : decode cX5_balancePower 27 = .ok (.aload_n 0, 1) := by decide +kernel
theorem dX5_balancePower_28 : decode cX5_balancePower 28 = .ok (.getfield 33, 3) := by decide +kernel
theorem dX5_balancePower_31 : decode cX5_balancePower 31 = .ok (.iconst 2, 1) := by decide +kernel
theorem dX5_balancePower_32 : decode cX5_balancePower 32 = .ok (.aload_n 0, 1) := by decide +kernel
theorem dX5_balancePower_33 : decode cX5_balancePower 33 = .ok (.getfield 19, 3) := by decide +kernel
theorem dX5_balancePower_36 : decode cX5_balancePower 36 = .ok (.invokevirtual 186, 3) := by decide +kernel
theorem dX5_balancePower_39 : decode cX5_balancePower 39 = .ok (.lsub, 1) := by decide +kernel
theorem dX5_balancePower_40 : decode cX5_balancePower 40 = .ok (.lstore_n 2, 1) := by decide +kernel
theorem dX5_balancePower_41 : decode cX5_balancePower 41 = .ok (.lload_n 2, 1) := by decide +kernel
theorem dX5_balancePower_42 : decode cX5_balancePower 42 = .ok (.lneg, 1) := by decide +kernel
theorem dX5_balancePower_43 : decode cX5_balancePower 43 = .ok (.aload_n 0, 1) := by decide +kernel
theorem dX5_balancePower_44 : decode cX5_balancePower 44 = .ok (.getfield 19, 3) := by decide +kernel
theorem dX5_balancePower_47 : decode cX5_balancePower 47 = .ok (.iload_n 1, 1) := by decide +kernel
theorem dX5_balancePower_48 : decode cX5_balancePower 48 = .ok (.invokevirtual 147, 3) := by decide +kernel
theorem dX5_balancePower_51 : decode cX5_balancePower 51 = .ok (.lmul, 1) := by decide +kernel
theorem dX5_balancePower_52 : decode cX5_balancePower 52 = .ok (.ldc2_w 150, 3) := by decide +kernel
theorem dX5_balancePower_55 : decode cX5_balancePower 55 = .ok (.aload_n 0, 1) := by decide +kernel
theorem dX5_balancePower_56 : decode cX5_balancePower 56 = .ok (.getfield 19, 3) := by decide +kernel
theorem dX5_balancePower_59 : decode cX5_balancePower 59 = .ok (.iload_n 1, 1) := by decide +kernel
theorem dX5_balancePower_60 : decode cX5_balancePower 60 = .ok (.invokevirtual 129, 3) := by decide +kernel
theorem dX5_balancePower_63 : decode cX5_balancePower 63 = .ok (.lmul, 1) := by decide +kernel
theorem dX5_balancePower_64 : decode cX5_balancePower 64 = .ok (.invokestatic 132, 3) := by decide +kernel
theorem dX5_balancePower_67 : decode cX5_balancePower 67 = .ok (.lreturn, 1) := by decide +kernel
set_option maxRecDepth 20000 in
theorem ggX5_findWrongGlass_X5_isMeasurable : GoodIn wsX5_findWrongGlass wsX5_isMeasurable := goodIn_r _ [8, 9, 10] (by decide +kernel) (by decide +kernel)
set_option maxRecDepth 20000 in
theorem gX5_findWrongGlass_X5_isMeasurable : GoodIn wsX5_findWrongGlass (va_wsS RX5 190 yX5_isMeasurable wsX5_isMeasurable) := goodIn_app (goodIn_of _ (by decide +kernel)) ggX5_findWrongGlass_X5_isMeasurable
set_option maxRecDepth 20000 in
theorem ggX5_findWrongGlass_X3_powerFor : GoodIn wsX5_findWrongGlass wsX3_powerFor := goodIn_r _ [15, 16, 17, 18, 19, 20, 14, 21, 22, 23, 24, 25, 26, 27, 28, 29, 30, 31, 32, 33, 34, 35, 36, 37, 38, 7, 39, 40, 41, 42, 43, 65, 66, 67, 68, 69, 70, 71, 72] (by decide +kernel) (by decide +kernel)
set_option maxRecDepth 20000 in
theorem gX5_findWrongGlass_X3_powerFor : GoodIn wsX5_findWrongGlass (wsV RX5 186 RX3 yX3_powerFor wsX3_powerFor) := goodIn_app (goodIn_of _ (by decide +kernel)) ggX5_findWrongGlass_X3_powerFor
set_option maxRecDepth 20000 in
theorem ggX5_findWrongGlass_X5_missWith : GoodIn wsX5_findWrongGlass wsX5_missWith := goodIn_r _ [47, 2, 3, 48, 49, 50, 51, 52, 53, 54, 14, 55, 17, 18, 19, 20, 21, 22, 23, 24, 25, 26, 27, 28, 29, 30, 31, 32, 33, 34, 35, 36, 37, 38, 7, 39, 40, 41, 42, 43, 60, 61, 62, 63, 64, 65, 66, 67, 68, 69, 70, 71, 72] (by decide +kernel) (by decide +kernel)
set_option maxRecDepth 20000 in
theorem gX5_findWrongGlass_X5_missWith : GoodIn wsX5_findWrongGlass (wsV RX5 193 RX5 yX5_missWith wsX5_missWith) := goodIn_app (goodIn_of _ (by decide +kernel)) ggX5_findWrongGlass_X5_missWith
set_option maxRecDepth 20000 in
theorem ggX5_findWrongGlass_X3_glassOf : GoodIn wsX5_findWrongGlass wsX3_glassOf := goodIn_r _ [59, 17, 65, 66, 67] (by decide +kernel) (by decide +kernel)
set_option maxRecDepth 20000 in
theorem gX5_findWrongGlass_X3_glassOf : GoodIn wsX5_findWrongGlass (wsV RX5 197 RX3 yX3_glassOf wsX3_glassOf) := goodIn_app (goodIn_of _ (by decide +kernel)) ggX5_findWrongGlass_X3_glassOf
theorem dX5_findWrongGlass_0 : decode cX5_findWrongGlass 0 = .ok (.lload_n 1, 1) := by decide +kernel
theorem dX5_findWrongGlass_1 : decode cX5_findWrongGlass 1 = .ok (.invokestatic 190, 3) := by decide +kernel
theorem dX5_findWrongGlass_4 : decode cX5_findWrongGlass 4 = .ok (.ifCond .eq 18, 3) := by decide +kernel
theorem dX5_findWrongGlass_7 : decode cX5_findWrongGlass 7 = .ok (.lload_n 3, 1) := by decide +kernel
theorem dX5_findWrongGlass_8 : decode cX5_findWrongGlass 8 = .ok (.invokestatic 190, 3) := by decide +kernel
theorem dX5_findWrongGlass_11 : decode cX5_findWrongGlass 11 = .ok (.ifCond .eq 11, 3) := by decide +kernel
theorem dX5_findWrongGlass_14 : decode cX5_findWrongGlass 14 = .ok (.lload 5, 2) := by decide +kernel
theorem dX5_findWrongGlass_16 : decode cX5_findWrongGlass 16 = .ok (.invokestatic 190, 3) := by decide +kernel
theorem dX5_findWrongGlass_19 : decode cX5_findWrongGlass 19 = .ok (.ifCond .ne 7, 3) := by decide +kernel
theorem dX5_findWrongGlass_22 : decode cX5_findWrongGlass 22 = .ok (.ldc2_w 44, 3) := by decide +kernel
theorem dX5_findWrongGlass_25 : decode cX5_findWrongGlass 25 = .ok (.lreturn, 1) := by decide +kernel
theorem dX5_findWrongGlass_26 : decode cX5_findWrongGlass 26 = .ok (.aload_n 0, 1) := by decide +kernel
theorem dX5_findWrongGlass_27 : decode cX5_findWrongGlass 27 = .ok (.getfield 33, 3) := by decide +kernel
theorem dX5_findWrongGlass_30 : decode cX5_findWrongGlass 30 = .ok (.iconst 0, 1) := by decide +kernel
theorem dX5_findWrongGlass_31 : decode cX5_findWrongGlass 31 = .ok (.aload_n 0, 1) := by decide +kernel
theorem dX5_findWrongGlass_32 : decode cX5_findWrongGlass 32 = .ok (.getfield 19, 3) := by decide +kernel
theorem dX5_findWrongGlass_35 : decode cX5_findWrongGlass 35 = .ok (.invokevirtual 186, 3) := by decide +kernel
theorem dX5_findWrongGlass_38 : decode cX5_findWrongGlass 38 = .ok (.lload_n 1, 1) := by decide +kernel
theorem dX5_findWrongGlass_39 : decode cX5_findWrongGlass 39 = .ok (.lsub, 1) := by decide +kernel
theorem dX5_findWrongGlass_40 : decode cX5_findWrongGlass 40 = .ok (.lstore 7, 2) := by decide +kernel
theorem dX5_findWrongGlass_42 : decode cX5_findWrongGlass 42 = .ok (.aload_n 0, 1) := by decide +kernel
theorem dX5_findWrongGlass_43 : decode cX5_findWrongGlass 43 = .ok (.getfield 33, 3) := by decide +kernel
theorem dX5_findWrongGlass_46 : decode cX5_findWrongGlass 46 = .ok (.iconst 1, 1) := by decide +kernel
theorem dX5_findWrongGlass_47 : decode cX5_findWrongGlass 47 = .ok (.aload_n 0, 1) := by decide +kernel
theorem dX5_findWrongGlass_48 : decode cX5_findWrongGlass 48 = .ok (.getfield 19, 3) := by decide +kernel
theorem dX5_findWrongGlass_51 : decode cX5_findWrongGlass 51 = .ok (.invokevirtual 186, 3) := by decide +kernel
theorem dX5_findWrongGlass_54 : decode cX5_findWrongGlass 54 = .ok (.lload_n 3, 1) := by decide +kernel
theorem dX5_findWrongGlass_55 : decode cX5_findWrongGlass 55 = .ok (.lsub, 1) := by decide +kernel
theorem dX5_findWrongGlass_56 : decode cX5_findWrongGlass 56 = .ok (.lstore 9, 2) := by decide +kernel
theorem dX5_findWrongGlass_58 : decode cX5_findWrongGlass 58 = .ok (.aload_n 0, 1) := by decide +kernel
theorem dX5_findWrongGlass_59 : decode cX5_findWrongGlass 59 = .ok (.getfield 33, 3) := by decide +kernel
theorem dX5_findWrongGlass_62 : decode cX5_findWrongGlass 62 = .ok (.iconst 2, 1) := by decide +kernel
theorem dX5_findWrongGlass_63 : decode cX5_findWrongGlass 63 = .ok (.aload_n 0, 1) := by decide +kernel
theorem dX5_findWrongGlass_64 : decode cX5_findWrongGlass 64 = .ok (.getfield 19, 3) := by decide +kernel
theorem dX5_findWrongGlass_67 : decode cX5_findWrongGlass 67 = .ok (.invokevirtual 186, 3) := by decide +kernel
theorem dX5_findWrongGlass_70 : decode cX5_findWrongGlass 70 = .ok (.lload 5, 2) := by decide +kernel
theorem dX5_findWrongGlass_72 : decode cX5_findWrongGlass 72 = .ok (.lsub, 1) := by decide +kernel
theorem dX5_findWrongGlass_73 : decode cX5_findWrongGlass 73 = .ok (.lstore 11, 2) := by decide +kernel
theorem dX5_findWrongGlass_75 : decode cX5_findWrongGlass 75 = .ok (.ldc2_w 139, 3) := by decide +kernel
theorem dX5_findWrongGlass_78 : decode cX5_findWrongGlass 78 = .ok (.lstore 13, 2) := by decide +kernel
theorem dX5_findWrongGlass_80 : decode cX5_findWrongGlass 80 = .ok (.lconst 0, 1) := by decide +kernel
theorem dX5_findWrongGlass_81 : decode cX5_findWrongGlass 81 = .ok (.lstore 15, 2) := by decide +kernel
theorem dX5_findWrongGlass_83 : decode cX5_findWrongGlass 83 = .ok (.iconst 0, 1) := by decide +kernel
theorem dX5_findWrongGlass_84 : decode cX5_findWrongGlass 84 = .ok (.istore 17, 2) := by decide +kernel
theorem dX5_findWrongGlass_86 : decode cX5_findWrongGlass 86 = .ok (.iload 17, 2) := by decide +kernel
theorem dX5_findWrongGlass_88 : decode cX5_findWrongGlass 88 = .ok (.aload_n 0, 1) := by decide +kernel
theorem dX5_findWrongGlass_89 : decode cX5_findWrongGlass 89 = .ok (.getfield 33, 3) := by decide +kernel
theorem dX5_findWrongGlass_92 : decode cX5_findWrongGlass 92 = .ok (.getfield 178, 3) := by decide +kernel
theorem dX5_findWrongGlass_95 : decode cX5_findWrongGlass 95 = .ok (.if_icmp .ge 104, 3) := by decide +kernel
theorem dX5_findWrongGlass_98 : decode cX5_findWrongGlass 98 = .ok (.iconst 0, 1) := by decide +kernel
theorem dX5_findWrongGlass_99 : decode cX5_findWrongGlass 99 = .ok (.istore 18, 2) := by decide +kernel
theorem dX5_findWrongGlass_101 : decode cX5_findWrongGlass 101 = .ok (.iload 18, 2) := by decide +kernel
theorem dX5_findWrongGlass_103 : decode cX5_findWrongGlass 103 = .ok (.aload_n 0, 1) := by decide +kernel
theorem dX5_findWrongGlass_104 : decode cX5_findWrongGlass 104 = .ok (.getfield 19, 3) := by decide +kernel
theorem dX5_findWrongGlass_107 : decode cX5_findWrongGlass 107 = .ok (.getfield 77, 3) := by decide +kernel
theorem dX5_findWrongGlass_110 : decode cX5_findWrongGlass 110 = .ok (.if_icmp .ge 83, 3) := by decide +kernel
theorem dX5_findWrongGlass_113 : decode cX5_findWrongGlass 113 = .ok (.aload_n 0, 1) := by decide +kernel
theorem dX5_findWrongGlass_114 : decode cX5_findWrongGlass 114 = .ok (.iload 17, 2) := by decide +kernel
theorem dX5_findWrongGlass_116 : decode cX5_findWrongGlass 116 = .ok (.iload 18, 2) := by decide +kernel
theorem dX5_findWrongGlass_118 : decode cX5_findWrongGlass 118 = .ok (.lload 7, 2) := by decide +kernel
theorem dX5_findWrongGlass_120 : decode cX5_findWrongGlass 120 = .ok (.lload 9, 2) := by decide +kernel
theorem dX5_findWrongGlass_122 : decode cX5_findWrongGlass 122 = .ok (.lload 11, 2) := by decide +kernel
theorem dX5_findWrongGlass_124 : decode cX5_findWrongGlass 124 = .ok (.invokevirtual 193, 3) := by decide +kernel
theorem dX5_findWrongGlass_127 : decode cX5_findWrongGlass 127 = .ok (.lstore 19, 2) := by decide +kernel
theorem dX5_findWrongGlass_129 : decode cX5_findWrongGlass 129 = .ok (.iload 18, 2) := by decide +kernel
theorem dX5_findWrongGlass_131 : decode cX5_findWrongGlass 131 = .ok (.aload_n 0, 1) := by decide +kernel
theorem dX5_findWrongGlass_132 : decode cX5_findWrongGlass 132 = .ok (.getfield 33, 3) := by decide +kernel
theorem dX5_findWrongGlass_135 : decode cX5_findWrongGlass 135 = .ok (.iload 17, 2) := by decide +kernel
theorem dX5_findWrongGlass_137 : decode cX5_findWrongGlass 137 = .ok (.invokevirtual 197, 3) := by decide +kernel
theorem dX5_findWrongGlass_140 : decode cX5_findWrongGlass 140 = .ok (.if_icmp .eq 7, 3) := by decide +kernel
theorem dX5_findWrongGlass_143 : decode cX5_findWrongGlass 143 = .ok (.iconst 1, 1) := by decide +kernel
theorem dX5_findWrongGlass_144 : decode cX5_findWrongGlass 144 = .ok (.goto 4, 3) := by decide +kernel
theorem dX5_findWrongGlass_147 : decode cX5_findWrongGlass 147 = .ok (.iconst 0, 1) := by decide +kernel
theorem dX5_findWrongGlass_148 : decode cX5_findWrongGlass 148 = .ok (.istore 21, 2) := by decide +kernel
theorem dX5_findWrongGlass_150 : decode cX5_findWrongGlass 150 = .ok (.iload 21, 2) := by decide +kernel
theorem dX5_findWrongGlass_152 : decode cX5_findWrongGlass 152 = .ok (.ifCond .eq 35, 3) := by decide +kernel
theorem dX5_findWrongGlass_155 : decode cX5_findWrongGlass 155 = .ok (.lload 13, 2) := by decide +kernel
theorem dX5_findWrongGlass_157 : decode cX5_findWrongGlass 157 = .ok (.ldc2_w 139, 3) := by decide +kernel
theorem dX5_findWrongGlass_160 : decode cX5_findWrongGlass 160 = .ok (.lcmp, 1) := by decide +kernel
theorem dX5_findWrongGlass_161 : decode cX5_findWrongGlass 161 = .ok (.ifCond .eq 11, 3) := by decide +kernel
theorem dX5_findWrongGlass_164 : decode cX5_findWrongGlass 164 = .ok (.lload 19, 2) := by decide +kernel
theorem dX5_findWrongGlass_166 : decode cX5_findWrongGlass 166 = .ok (.lload 15, 2) := by decide +kernel
theorem dX5_findWrongGlass_168 : decode cX5_findWrongGlass 168 = .ok (.lcmp, 1) := by decide +kernel
theorem dX5_findWrongGlass_169 : decode cX5_findWrongGlass 169 = .ok (.ifCond .ge 18, 3) := by decide +kernel
theorem dX5_findWrongGlass_172 : decode cX5_findWrongGlass 172 = .ok (.bipush 100, 2) := by decide +kernel
theorem dX5_findWrongGlass_174 : decode cX5_findWrongGlass 174 = .ok (.iload 17, 2) := by decide +kernel
theorem dX5_findWrongGlass_176 : decode cX5_findWrongGlass 176 = .ok (.imul, 1) := by decide +kernel
theorem dX5_findWrongGlass_177 : decode cX5_findWrongGlass 177 = .ok (.iload 18, 2) := by decide +kernel
theorem dX5_findWrongGlass_179 : decode cX5_findWrongGlass 179 = .ok (.iadd, 1) := by decide +kernel
theorem dX5_findWrongGlass_180 : decode cX5_findWrongGlass 180 = .ok (.i2l, 1) := by decide +kernel
theorem dX5_findWrongGlass_181 : decode cX5_findWrongGlass 181 = .ok (.lstore 13, 2) := by decide +kernel
theorem dX5_findWrongGlass_183 : decode cX5_findWrongGlass 183 = .ok (.lload 19, 2) := by decide +kernel
theorem dX5_findWrongGlass_185 : decode cX5_findWrongGlass 185 = .ok (.lstore 15, 2) := by decide +kernel
theorem dX5_findWrongGlass_187 : decode cX5_findWrongGlass 187 = .ok (.iinc 18 1, 3) := by decide +kernel
theorem dX5_findWrongGlass_190 : decode cX5_findWrongGlass 190 = .ok (.goto (-89), 3) := by decide +kernel
theorem dX5_findWrongGlass_193 : decode cX5_findWrongGlass 193 = .ok (.iinc 17 1, 3) := by decide +kernel
theorem dX5_findWrongGlass_196 : decode cX5_findWrongGlass 196 = .ok (.goto (-110), 3) := by decide +kernel
theorem dX5_findWrongGlass_199 : decode cX5_findWrongGlass 199 = .ok (.lload 13, 2) := by decide +kernel
theorem dX5_findWrongGlass_201 : decode cX5_findWrongGlass 201 = .ok (.lreturn, 1) := by decide +kernel
set_option maxRecDepth 20000 in
theorem ggX5_addPlate_X4_hasRadius : GoodIn wsX5_addPlate wsX4_hasRadius := goodIn_r _ [10, 11, 12, 22, 23] (by decide +kernel) (by decide +kernel)
set_option maxRecDepth 20000 in
theorem gX5_addPlate_X4_hasRadius : GoodIn wsX5_addPlate (wsV RX5 201 RX4 yX4_hasRadius wsX4_hasRadius) := goodIn_app (goodIn_of _ (by decide +kernel)) ggX5_addPlate_X4_hasRadius
set_option maxRecDepth 20000 in
theorem ggX5_addPlate_X4_add : GoodIn wsX5_addPlate wsX4_add := goodIn_r _ [16, 11, 12, 22, 23] (by decide +kernel) (by decide +kernel)
set_option maxRecDepth 20000 in
theorem gX5_addPlate_X4_add : GoodIn wsX5_addPlate (wsV RX5 205 RX4 yX4_add wsX4_add) := goodIn_app (goodIn_of _ (by decide +kernel)) ggX5_addPlate_X4_add
theorem dX5_addPlate_0 : decode cX5_addPlate 0 = .ok (.iload_n 1, 1) := by decide +kernel
theorem dX5_addPlate_1 : decode cX5_addPlate 1 = .ok (.sipush 1000, 3) := by decide +kernel
theorem dX5_addPlate_4 : decode cX5_addPlate 4 = .ok (.if_icmp .lt 9, 3) := by decide +kernel
theorem dX5_addPlate_7 : decode cX5_addPlate 7 = .ok (.iload_n 1, 1) := by decide +kernel
theorem dX5_addPlate_8 : decode cX5_addPlate 8 = .ok (.ldc 200, 2) := by decide +kernel
theorem dX5_addPlate_10 : decode cX5_addPlate 10 = .ok (.if_icmp .le 7, 3) := by decide +kernel
theorem dX5_addPlate_13 : decode cX5_addPlate 13 = .ok (.ldc2_w 44, 3) := by decide +kernel
theorem dX5_addPlate_16 : decode cX5_addPlate 16 = .ok (.lreturn, 1) := by decide +kernel
theorem dX5_addPlate_17 : decode cX5_addPlate 17 = .ok (.aload_n 0, 1) := by decide +kernel
theorem dX5_addPlate_18 : decode cX5_addPlate 18 = .ok (.getfield 40, 3) := by decide +kernel
theorem dX5_addPlate_21 : decode cX5_addPlate 21 = .ok (.iload_n 1, 1) := by decide +kernel
theorem dX5_addPlate_22 : decode cX5_addPlate 22 = .ok (.invokevirtual 201, 3) := by decide +kernel
theorem dX5_addPlate_25 : decode cX5_addPlate 25 = .ok (.ifCond .eq 7, 3) := by decide +kernel
theorem dX5_addPlate_28 : decode cX5_addPlate 28 = .ok (.ldc2_w 88, 3) := by decide +kernel
theorem dX5_addPlate_31 : decode cX5_addPlate 31 = .ok (.lreturn, 1) := by decide +kernel
theorem dX5_addPlate_32 : decode cX5_addPlate 32 = .ok (.aload_n 0, 1) := by decide +kernel
theorem dX5_addPlate_33 : decode cX5_addPlate 33 = .ok (.getfield 40, 3) := by decide +kernel
theorem dX5_addPlate_36 : decode cX5_addPlate 36 = .ok (.getfield 204, 3) := by decide +kernel
theorem dX5_addPlate_39 : decode cX5_addPlate 39 = .ok (.bipush 16, 2) := by decide +kernel
theorem dX5_addPlate_41 : decode cX5_addPlate 41 = .ok (.if_icmp .ne 7, 3) := by decide +kernel
theorem dX5_addPlate_44 : decode cX5_addPlate 44 = .ok (.ldc2_w 50, 3) := by decide +kernel
theorem dX5_addPlate_47 : decode cX5_addPlate 47 = .ok (.lreturn, 1) := by decide +kernel
theorem dX5_addPlate_48 : decode cX5_addPlate 48 = .ok (.aload_n 0, 1) := by decide +kernel
theorem dX5_addPlate_49 : decode cX5_addPlate 49 = .ok (.getfield 40, 3) := by decide +kernel
theorem dX5_addPlate_52 : decode cX5_addPlate 52 = .ok (.iload_n 1, 1) := by decide +kernel
theorem dX5_addPlate_53 : decode cX5_addPlate 53 = .ok (.invokevirtual 205, 3) := by decide +kernel
theorem dX5_addPlate_56 : decode cX5_addPlate 56 = .ok (.aload_n 0, 1) := by decide +kernel
theorem dX5_addPlate_57 : decode cX5_addPlate 57 = .ok (.getfield 40, 3) := by decide +kernel
theorem dX5_addPlate_60 : decode cX5_addPlate 60 = .ok (.getfield 204, 3) := by decide +kernel
theorem dX5_addPlate_63 : decode cX5_addPlate 63 = .ok (.iconst 1, 1) := by decide +kernel
theorem dX5_addPlate_64 : decode cX5_addPlate 64 = .ok (.isub, 1) := by decide +kernel
theorem dX5_addPlate_65 : decode cX5_addPlate 65 = .ok (.i2l, 1) := by decide +kernel
theorem dX5_addPlate_66 : decode cX5_addPlate 66 = .ok (.lreturn, 1) := by decide +kernel
theorem dX5_plateCount_0 : decode cX5_plateCount 0 = .ok (.aload_n 0, 1) := by decide +kernel
theorem dX5_plateCount_1 : decode cX5_plateCount 1 = .ok (.getfield 40, 3) := by decide +kernel
theorem dX5_plateCount_4 : decode cX5_plateCount 4 = .ok (.getfield 204, 3) := by decide +kernel
theorem dX5_plateCount_7 : decode cX5_plateCount 7 = .ok (.i2l, 1) := by decide +kernel
theorem dX5_plateCount_8 : decode cX5_plateCount 8 = .ok (.lreturn, 1) := by decide +kernel
set_option maxRecDepth 20000 in
theorem ggX5_nearestPlate_X4_nearestTo : GoodIn wsX5_nearestPlate wsX4_nearestTo := goodIn_r _ [7, 8, 9, 10, 11, 12, 13, 19, 20] (by decide +kernel) (by decide +kernel)
set_option maxRecDepth 20000 in
theorem gX5_nearestPlate_X4_nearestTo : GoodIn wsX5_nearestPlate (wsV RX5 206 RX4 yX4_nearestTo wsX4_nearestTo) := goodIn_app (goodIn_of _ (by decide +kernel)) ggX5_nearestPlate_X4_nearestTo
theorem dX5_nearestPlate_0 : decode cX5_nearestPlate 0 = .ok (.aload_n 0, 1) := by decide +kernel
theorem dX5_nearestPlate_1 : decode cX5_nearestPlate 1 = .ok (.getfield 40, 3) := by decide +kernel
theorem dX5_nearestPlate_4 : decode cX5_nearestPlate 4 = .ok (.iload_n 1, 1) := by decide +kernel
theorem dX5_nearestPlate_5 : decode cX5_nearestPlate 5 = .ok (.invokevirtual 206, 3) := by decide +kernel
theorem dX5_nearestPlate_8 : decode cX5_nearestPlate 8 = .ok (.istore_n 2, 1) := by decide +kernel
theorem dX5_nearestPlate_9 : decode cX5_nearestPlate 9 = .ok (.iload_n 2, 1) := by decide +kernel
theorem dX5_nearestPlate_10 : decode cX5_nearestPlate 10 = .ok (.ifCond .ge 9, 3) := by decide +kernel
theorem dX5_nearestPlate_13 : decode cX5_nearestPlate 13 = .ok (.ldc2_w 139, 3) := by decide +kernel
theorem dX5_nearestPlate_16 : decode cX5_nearestPlate 16 = .ok (.goto 5, 3) := by decide +kernel
theorem dX5_nearestPlate_19 : decode cX5_nearestPlate 19 = .ok (.iload_n 2, 1) := by decide +kernel
theorem dX5_nearestPlate_20 : decode cX5_nearestPlate 20 = .ok (.i2l, 1) := by decide +kernel
theorem dX5_nearestPlate_21 : decode cX5_nearestPlate 21 = .ok (.lreturn, 1) := by decide +kernel
set_option maxRecDepth 20000 in
theorem ggX5_bestSurfaces_X3_has : GoodIn wsX5_bestSurfaces wsX3_has := goodIn_r _ [15, 16, 60, 61, 62] (by decide +kernel) (by decide +kernel)
set_option maxRecDepth 20000 in
theorem gX5_bestSurfaces_X3_has : GoodIn wsX5_bestSurfaces (wsV RX5 182 RX3 yX3_has wsX3_has) := goodIn_app (goodIn_of _ (by decide +kernel)) ggX5_bestSurfaces_X3_has
set_option maxRecDepth 20000 in
theorem ggX5_bestSurfaces_X3_glassOf : GoodIn wsX5_bestSurfaces wsX3_glassOf := goodIn_r _ [20, 21, 60, 61, 62] (by decide +kernel) (by decide +kernel)
set_option maxRecDepth 20000 in
theorem gX5_bestSurfaces_X3_glassOf : GoodIn wsX5_bestSurfaces (wsV RX5 197 RX3 yX3_glassOf wsX3_glassOf) := goodIn_app (goodIn_of _ (by decide +kernel)) ggX5_bestSurfaces_X3_glassOf
set_option maxRecDepth 20000 in
theorem ggX5_bestSurfaces_X0_valueA : GoodIn wsX5_bestSurfaces wsX0_valueA := goodIn_r _ [26, 27, 28, 63, 64, 65, 66, 67] (by decide +kernel) (by decide +kernel)
set_option maxRecDepth 20000 in
theorem gX5_bestSurfaces_X0_valueA : GoodIn wsX5_bestSurfaces (wsV RX5 147 RX0 yX0_valueA wsX0_valueA) := goodIn_app (goodIn_of _ (by decide +kernel)) ggX5_bestSurfaces_X0_valueA
set_option maxRecDepth 20000 in
theorem ggX5_bestSurfaces_X3_powerOf : GoodIn wsX5_bestSurfaces wsX3_powerOf := goodIn_r _ [32, 33, 60, 61, 62] (by decide +kernel) (by decide +kernel)
set_option maxRecDepth 20000 in
theorem gX5_bestSurfaces_X3_powerOf : GoodIn wsX5_bestSurfaces (wsV RX5 209 RX3 yX3_powerOf wsX3_powerOf) := goodIn_app (goodIn_of _ (by decide +kernel)) ggX5_bestSurfaces_X3_powerOf
set_option maxRecDepth 20000 in
theorem ggX5_bestSurfaces_X5_powerBetween : GoodIn wsX5_bestSurfaces wsX5_powerBetween := goodIn_r _ [38, 5, 39, 40, 41, 42, 43, 44, 45, 46, 47, 37, 48, 49, 50, 51, 52, 53, 54, 55, 56, 57, 58, 59] (by decide +kernel) (by decide +kernel)
set_option maxRecDepth 20000 in
theorem gX5_bestSurfaces_X5_powerBetween : GoodIn wsX5_bestSurfaces (wsV RX5 214 RX5 yX5_powerBetween wsX5_powerBetween) := goodIn_app (goodIn_of _ (by decide +kernel)) ggX5_bestSurfaces_X5_powerBetween
theorem dX5_bestSurfaces_0 : decode cX5_bestSurfaces 0 = .ok (.aload_n 0, 1) := by decide +kernel
theorem dX5_bestSurfaces_1 : decode cX5_bestSurfaces 1 = .ok (.getfield 33, 3) := by decide +kernel
theorem dX5_bestSurfaces_4 : decode cX5_bestSurfaces 4 = .ok (.iload_n 1, 1) := by decide +kernel
theorem dX5_bestSurfaces_5 : decode cX5_bestSurfaces 5 = .ok (.invokevirtual 182, 3) := by decide +kernel
theorem dX5_bestSurfaces_8 : decode cX5_bestSurfaces 8 = .ok (.ifCond .ne 7, 3) := by decide +kernel
theorem dX5_bestSurfaces_11 : decode cX5_bestSurfaces 11 = .ok (.ldc2_w 183, 3) := by decide +kernel
theorem dX5_bestSurfaces_14 : decode cX5_bestSurfaces 14 = .ok (.lreturn, 1) := by decide +kernel
theorem dX5_bestSurfaces_15 : decode cX5_bestSurfaces 15 = .ok (.aload_n 0, 1) := by decide +kernel
theorem dX5_bestSurfaces_16 : decode cX5_bestSurfaces 16 = .ok (.getfield 19, 3) := by decide +kernel
theorem dX5_bestSurfaces_19 : decode cX5_bestSurfaces 19 = .ok (.aload_n 0, 1) := by decide +kernel
theorem dX5_bestSurfaces_20 : decode cX5_bestSurfaces 20 = .ok (.getfield 33, 3) := by decide +kernel
theorem dX5_bestSurfaces_23 : decode cX5_bestSurfaces 23 = .ok (.iload_n 1, 1) := by decide +kernel
theorem dX5_bestSurfaces_24 : decode cX5_bestSurfaces 24 = .ok (.invokevirtual 197, 3) := by decide +kernel
theorem dX5_bestSurfaces_27 : decode cX5_bestSurfaces 27 = .ok (.invokevirtual 147, 3) := by decide +kernel
theorem dX5_bestSurfaces_30 : decode cX5_bestSurfaces 30 = .ok (.lstore_n 2, 1) := by decide +kernel
theorem dX5_bestSurfaces_31 : decode cX5_bestSurfaces 31 = .ok (.aload_n 0, 1) := by decide +kernel
theorem dX5_bestSurfaces_32 : decode cX5_bestSurfaces 32 = .ok (.getfield 33, 3) := by decide +kernel
theorem dX5_bestSurfaces_35 : decode cX5_bestSurfaces 35 = .ok (.iload_n 1, 1) := by decide +kernel
theorem dX5_bestSurfaces_36 : decode cX5_bestSurfaces 36 = .ok (.invokevirtual 209, 3) := by decide +kernel
theorem dX5_bestSurfaces_39 : decode cX5_bestSurfaces 39 = .ok (.i2l, 1) := by decide +kernel
theorem dX5_bestSurfaces_40 : decode cX5_bestSurfaces 40 = .ok (.lstore 4, 2) := by decide +kernel
theorem dX5_bestSurfaces_42 : decode cX5_bestSurfaces 42 = .ok (.ldc2_w 139, 3) := by decide +kernel
theorem dX5_bestSurfaces_45 : decode cX5_bestSurfaces 45 = .ok (.lstore 6, 2) := by decide +kernel
theorem dX5_bestSurfaces_47 : decode cX5_bestSurfaces 47 = .ok (.lconst 0, 1) := by decide +kernel
theorem dX5_bestSurfaces_48 : decode cX5_bestSurfaces 48 = .ok (.lstore 8, 2) := by decide +kernel
theorem dX5_bestSurfaces_50 : decode cX5_bestSurfaces 50 = .ok (.iconst 0, 1) := by decide +kernel
theorem dX5_bestSurfaces_51 : decode cX5_bestSurfaces 51 = .ok (.istore 10, 2) := by decide +kernel
theorem dX5_bestSurfaces_53 : decode cX5_bestSurfaces 53 = .ok (.iload 10, 2) := by decide +kernel
theorem dX5_bestSurfaces_55 : decode cX5_bestSurfaces 55 = .ok (.iconst 2, 1) := by decide +kernel
theorem dX5_bestSurfaces_56 : decode cX5_bestSurfaces 56 = .ok (.aload_n 0, 1) := by decide +kernel
theorem dX5_bestSurfaces_57 : decode cX5_bestSurfaces 57 = .ok (.getfield 40, 3) := by decide +kernel
theorem dX5_bestSurfaces_60 : decode cX5_bestSurfaces 60 = .ok (.getfield 204, 3) := by decide +kernel
theorem dX5_bestSurfaces_63 : decode cX5_bestSurfaces 63 = .ok (.imul, 1) := by decide +kernel
theorem dX5_bestSurfaces_64 : decode cX5_bestSurfaces 64 = .ok (.if_icmp .ge 121, 3) := by decide +kernel
theorem dX5_bestSurfaces_67 : decode cX5_bestSurfaces 67 = .ok (.iconst 0, 1) := by decide +kernel
theorem dX5_bestSurfaces_68 : decode cX5_bestSurfaces 68 = .ok (.istore 11, 2) := by decide +kernel
theorem dX5_bestSurfaces_70 : decode cX5_bestSurfaces 70 = .ok (.iload 11, 2) := by decide +kernel
theorem dX5_bestSurfaces_72 : decode cX5_bestSurfaces 72 = .ok (.iconst 2, 1) := by decide +kernel
theorem dX5_bestSurfaces_73 : decode cX5_bestSurfaces 73 = .ok (.aload_n 0, 1) := by decide +kernel
theorem dX5_bestSurfaces_74 : decode cX5_bestSurfaces 74 = .ok (.getfield 40, 3) := by decide +kernel
theorem dX5_bestSurfaces_77 : decode cX5_bestSurfaces 77 = .ok (.getfield 204, 3) := by decide +kernel
theorem dX5_bestSurfaces_80 : decode cX5_bestSurfaces 80 = .ok (.imul, 1) := by decide +kernel
theorem dX5_bestSurfaces_81 : decode cX5_bestSurfaces 81 = .ok (.if_icmp .ge 98, 3) := by decide +kernel
theorem dX5_bestSurfaces_84 : decode cX5_bestSurfaces 84 = .ok (.iload 10, 2) := by decide +kernel
theorem dX5_bestSurfaces_86 : decode cX5_bestSurfaces 86 = .ok (.iload 11, 2) := by decide +kernel
theorem dX5_bestSurfaces_88 : decode cX5_bestSurfaces 88 = .ok (.if_icmp .ne 9, 3) := by decide +kernel
theorem dX5_bestSurfaces_91 : decode cX5_bestSurfaces 91 = .ok (.ldc2_w 212, 3) := by decide +kernel
theorem dX5_bestSurfaces_94 : decode cX5_bestSurfaces 94 = .ok (.goto 18, 3) := by decide +kernel
theorem dX5_bestSurfaces_97 : decode cX5_bestSurfaces 97 = .ok (.aload_n 0, 1) := by decide +kernel
theorem dX5_bestSurfaces_98 : decode cX5_bestSurfaces 98 = .ok (.lload_n 2, 1) := by decide +kernel
theorem dX5_bestSurfaces_99 : decode cX5_bestSurfaces 99 = .ok (.iload 10, 2) := by decide +kernel
theorem dX5_bestSurfaces_101 : decode cX5_bestSurfaces 101 = .ok (.iload 11, 2) := by decide +kernel
theorem dX5_bestSurfaces_103 : decode cX5_bestSurfaces 103 = .ok (.invokevirtual 214, 3) := by decide +kernel
theorem dX5_bestSurfaces_106 : decode cX5_bestSurfaces 106 = .ok (.lload 4, 2) := by decide +kernel
theorem dX5_bestSurfaces_108 : decode cX5_bestSurfaces 108 = .ok (.lsub, 1) := by decide +kernel
theorem dX5_bestSurfaces_109 : decode cX5_bestSurfaces 109 = .ok (.invokestatic 218, 3) := by decide +kernel
theorem dX5_bestSurfaces_112 : decode cX5_bestSurfaces 112 = .ok (.lstore 12, 2) := by decide +kernel
theorem dX5_bestSurfaces_114 : decode cX5_bestSurfaces 114 = .ok (.lload 12, 2) := by decide +kernel
theorem dX5_bestSurfaces_116 : decode cX5_bestSurfaces 116 = .ok (.lconst 0, 1) := by decide +kernel
theorem dX5_bestSurfaces_117 : decode cX5_bestSurfaces 117 = .ok (.lcmp, 1) := by decide +kernel
theorem dX5_bestSurfaces_118 : decode cX5_bestSurfaces 118 = .ok (.ifCond .lt 55, 3) := by decide +kernel
theorem dX5_bestSurfaces_121 : decode cX5_bestSurfaces 121 = .ok (.lload 6, 2) := by decide +kernel
theorem dX5_bestSurfaces_123 : decode cX5_bestSurfaces 123 = .ok (.ldc2_w 139, 3) := by decide +kernel
theorem dX5_bestSurfaces_126 : decode cX5_bestSurfaces 126 = .ok (.lcmp, 1) := by decide +kernel
theorem dX5_bestSurfaces_127 : decode cX5_bestSurfaces 127 = .ok (.ifCond .eq 11, 3) := by decide +kernel
theorem dX5_bestSurfaces_130 : decode cX5_bestSurfaces 130 = .ok (.lload 12, 2) := by decide +kernel
theorem dX5_bestSurfaces_132 : decode cX5_bestSurfaces 132 = .ok (.lload 8, 2) := by decide +kernel
theorem dX5_bestSurfaces_134 : decode cX5_bestSurfaces 134 = .ok (.lcmp, 1) := by decide +kernel
theorem dX5_bestSurfaces_135 : decode cX5_bestSurfaces 135 = .ok (.ifCond .ge 38, 3) := by decide +kernel
theorem dX5_bestSurfaces_138 : decode cX5_bestSurfaces 138 = .ok (.sipush 1000, 3) := by decide +kernel
theorem dX5_bestSurfaces_141 : decode cX5_bestSurfaces 141 = .ok (.iload 10, 2) := by decide +kernel
theorem dX5_bestSurfaces_143 : decode cX5_bestSurfaces 143 = .ok (.iconst 2, 1) := by decide +kernel
theorem dX5_bestSurfaces_144 : decode cX5_bestSurfaces 144 = .ok (.idiv, 1) := by decide +kernel
theorem dX5_bestSurfaces_145 : decode cX5_bestSurfaces 145 = .ok (.imul, 1) := by decide +kernel
theorem dX5_bestSurfaces_146 : decode cX5_bestSurfaces 146 = .ok (.bipush 10, 2) := by decide +kernel
theorem dX5_bestSurfaces_148 : decode cX5_bestSurfaces 148 = .ok (.iload 11, 2) := by decide +kernel
theorem dX5_bestSurfaces_150 : decode cX5_bestSurfaces 150 = .ok (.iconst 2, 1) := by decide +kernel
theorem dX5_bestSurfaces_151 : decode cX5_bestSurfaces 151 = .ok (.idiv, 1) := by decide +kernel
theorem dX5_bestSurfaces_152 : decode cX5_bestSurfaces 152 = .ok (.imul, 1) := by decide +kernel
theorem dX5_bestSurfaces_153 : decode cX5_bestSurfaces 153 = .ok (.iadd, 1) := by decide +kernel
theorem dX5_bestSurfaces_154 : decode cX5_bestSurfaces 154 = .ok (.iconst 2, 1) := by decide +kernel
theorem dX5_bestSurfaces_155 : decode cX5_bestSurfaces 155 = .ok (.iload 10, 2) := by decide +kernel
theorem dX5_bestSurfaces_157 : decode cX5_bestSurfaces 157 = .ok (.iconst 2, 1) := by decide +kernel
theorem dX5_bestSurfaces_158 : decode cX5_bestSurfaces 158 = .ok (.irem, 1) := by decide +kernel
theorem dX5_bestSurfaces_159 : decode cX5_bestSurfaces 159 = .ok (.imul, 1) := by decide +kernel
theorem dX5_bestSurfaces_160 : decode cX5_bestSurfaces 160 = .ok (.iadd, 1) := by decide +kernel
theorem dX5_bestSurfaces_161 : decode cX5_bestSurfaces 161 = .ok (.iload 11, 2) := by decide +kernel
theorem dX5_bestSurfaces_163 : decode cX5_bestSurfaces 163 = .ok (.iconst 2, 1) := by decide +kernel
theorem dX5_bestSurfaces_164 : decode cX5_bestSurfaces 164 = .ok (.irem, 1) := by decide +kernel
theorem dX5_bestSurfaces_165 : decode cX5_bestSurfaces 165 = .ok (.iadd, 1) := by decide +kernel
theorem dX5_bestSurfaces_166 : decode cX5_bestSurfaces 166 = .ok (.i2l, 1) := by decide +kernel
theorem dX5_bestSurfaces_167 : decode cX5_bestSurfaces 167 = .ok (.lstore 6, 2) := by decide +kernel
theorem dX5_bestSurfaces_169 : decode cX5_bestSurfaces 169 = .ok (.lload 12, 2) := by decide +kernel
theorem dX5_bestSurfaces_171 : decode cX5_bestSurfaces 171 = .ok (.lstore 8, 2) := by decide +kernel
theorem dX5_bestSurfaces_173 : decode cX5_bestSurfaces 173 = .ok (.iinc 11 1, 3) := by decide +kernel
theorem dX5_bestSurfaces_176 : decode cX5_bestSurfaces 176 = .ok (.goto (-106), 3) := by decide +kernel
theorem dX5_bestSurfaces_179 : decode cX5_bestSurfaces 179 = .ok (.iinc 10 1, 3) := by decide +kernel
theorem dX5_bestSurfaces_182 : decode cX5_bestSurfaces 182 = .ok (.goto (-129), 3) := by decide +kernel
theorem dX5_bestSurfaces_185 : decode cX5_bestSurfaces 185 = .ok (.lload 6, 2) := by decide +kernel
theorem dX5_bestSurfaces_187 : decode cX5_bestSurfaces 187 = .ok (.lreturn, 1) := by decide +kernel
set_option maxRecDepth 20000 in
theorem ggX5_surfacePower_X0_has : GoodIn wsX5_surfacePower wsX0_has := goodIn_r _ [9, 10, 46, 47, 48, 49, 50] (by decide +kernel) (by decide +kernel)
set_option maxRecDepth 20000 in
theorem gX5_surfacePower_X0_has : GoodIn wsX5_surfacePower (wsV RX5 93 RX0 yX0_has wsX0_has) := goodIn_app (goodIn_of _ (by decide +kernel)) ggX5_surfacePower_X0_has
set_option maxRecDepth 20000 in
theorem ggX5_surfacePower_X4_has : GoodIn wsX5_surfacePower wsX4_has := goodIn_r _ [15, 16, 51, 52] (by decide +kernel) (by decide +kernel)
set_option maxRecDepth 20000 in
theorem gX5_surfacePower_X4_has : GoodIn wsX5_surfacePower (wsV RX5 224 RX4 yX4_has wsX4_has) := goodIn_app (goodIn_of _ (by decide +kernel)) ggX5_surfacePower_X4_has
set_option maxRecDepth 20000 in
theorem ggX5_surfacePower_X0_valueA : GoodIn wsX5_surfacePower wsX0_valueA := goodIn_r _ [20, 21, 22, 46, 47, 48, 49, 50] (by decide +kernel) (by decide +kernel)
set_option maxRecDepth 20000 in
theorem gX5_surfacePower_X0_valueA : GoodIn wsX5_surfacePower (wsV RX5 147 RX0 yX0_valueA wsX0_valueA) := goodIn_app (goodIn_of _ (by decide +kernel)) ggX5_surfacePower_X0_valueA
set_option maxRecDepth 20000 in
theorem ggX5_surfacePower_X5_powerBetween : GoodIn wsX5_surfacePower wsX5_powerBetween := goodIn_r _ [27, 4, 28, 29, 30, 31, 14, 32, 33, 34, 35, 26, 36, 37, 38, 39, 40, 41, 42, 43, 44, 45, 51, 52] (by decide +kernel) (by decide +kernel)
set_option maxRecDepth 20000 in
theorem gX5_surfacePower_X5_powerBetween : GoodIn wsX5_surfacePower (wsV RX5 214 RX5 yX5_powerBetween wsX5_powerBetween) := goodIn_app (goodIn_of _ (by decide +kernel)) ggX5_surfacePower_X5_powerBetween
theorem dX5_surfacePower_0 : decode cX5_surfacePower 0 = .ok (.aload_n 0, 1) := by decide +kernel
theorem dX5_surfacePower_1 : decode cX5_surfacePower 1 = .ok (.getfield 19, 3) := by decide +kernel
theorem dX5_surfacePower_4 : decode cX5_surfacePower 4 = .ok (.iload_n 1, 1) := by decide +kernel
theorem dX5_surfacePower_5 : decode cX5_surfacePower 5 = .ok (.invokevirtual 93, 3) := by decide +kernel
theorem dX5_surfacePower_8 : decode cX5_surfacePower 8 = .ok (.ifCond .ne 7, 3) := by decide +kernel
theorem dX5_surfacePower_11 : decode cX5_surfacePower 11 = .ok (.ldc2_w 97, 3) := by decide +kernel
theorem dX5_surfacePower_14 : decode cX5_surfacePower 14 = .ok (.lreturn, 1) := by decide +kernel
theorem dX5_surfacePower_15 : decode cX5_surfacePower 15 = .ok (.iload_n 2, 1) := by decide +kernel
theorem dX5_surfacePower_16 : decode cX5_surfacePower 16 = .ok (.ifCond .lt 11, 3) := by decide +kernel
theorem dX5_surfacePower_19 : decode cX5_surfacePower 19 = .ok (.iload_n 2, 1) := by decide +kernel
theorem dX5_surfacePower_20 : decode cX5_surfacePower 20 = .ok (.bipush 10, 2) := by decide +kernel
theorem dX5_surfacePower_22 : decode cX5_surfacePower 22 = .ok (.irem, 1) := by decide +kernel
theorem dX5_surfacePower_23 : decode cX5_surfacePower 23 = .ok (.iconst 3, 1) := by decide +kernel
theorem dX5_surfacePower_24 : decode cX5_surfacePower 24 = .ok (.if_icmp .le 7, 3) := by decide +kernel
theorem dX5_surfacePower_27 : decode cX5_surfacePower 27 = .ok (.ldc2_w 44, 3) := by decide +kernel
theorem dX5_surfacePower_30 : decode cX5_surfacePower 30 = .ok (.lreturn, 1) := by decide +kernel
theorem dX5_surfacePower_31 : decode cX5_surfacePower 31 = .ok (.iload_n 2, 1) := by decide +kernel
theorem dX5_surfacePower_32 : decode cX5_surfacePower 32 = .ok (.sipush 1000, 3) := by decide +kernel
theorem dX5_surfacePower_35 : decode cX5_surfacePower 35 = .ok (.idiv, 1) := by decide +kernel
theorem dX5_surfacePower_36 : decode cX5_surfacePower 36 = .ok (.istore_n 3, 1) := by decide +kernel
theorem dX5_surfacePower_37 : decode cX5_surfacePower 37 = .ok (.iload_n 2, 1) := by decide +kernel
theorem dX5_surfacePower_38 : decode cX5_surfacePower 38 = .ok (.bipush 10, 2) := by decide +kernel
theorem dX5_surfacePower_40 : decode cX5_surfacePower 40 = .ok (.idiv, 1) := by decide +kernel
theorem dX5_surfacePower_41 : decode cX5_surfacePower 41 = .ok (.bipush 100, 2) := by decide +kernel
theorem dX5_surfacePower_43 : decode cX5_surfacePower 43 = .ok (.irem, 1) := by decide +kernel
theorem dX5_surfacePower_44 : decode cX5_surfacePower 44 = .ok (.istore 4, 2) := by decide +kernel
theorem dX5_surfacePower_46 : decode cX5_surfacePower 46 = .ok (.aload_n 0, 1) := by decide +kernel
theorem dX5_surfacePower_47 : decode cX5_surfacePower 47 = .ok (.getfield 40, 3) := by decide +kernel
theorem dX5_surfacePower_50 : decode cX5_surfacePower 50 = .ok (.iload_n 3, 1) := by decide +kernel
theorem dX5_surfacePower_51 : decode cX5_surfacePower 51 = .ok (.invokevirtual 224, 3) := by decide +kernel
theorem dX5_surfacePower_54 : decode cX5_surfacePower 54 = .ok (.ifCond .eq 15, 3) := by decide +kernel
theorem dX5_surfacePower_57 : decode cX5_surfacePower 57 = .ok (.aload_n 0, 1) := by decide +kernel
theorem dX5_surfacePower_58 : decode cX5_surfacePower 58 = .ok (.getfield 40, 3) := by decide +kernel
theorem dX5_surfacePower_61 : decode cX5_surfacePower 61 = .ok (.iload 4, 2) := by decide +kernel
theorem dX5_surfacePower_63 : decode cX5_surfacePower 63 = .ok (.invokevirtual 224, 3) := by decide +kernel
theorem dX5_surfacePower_66 : decode cX5_surfacePower 66 = .ok (.ifCond .ne 7, 3) := by decide +kernel
theorem dX5_surfacePower_69 : decode cX5_surfacePower 69 = .ok (.ldc2_w 44, 3) := by decide +kernel
theorem dX5_surfacePower_72 : decode cX5_surfacePower 72 = .ok (.lreturn, 1) := by decide +kernel
theorem dX5_surfacePower_73 : decode cX5_surfacePower 73 = .ok (.iconst 2, 1) := by decide +kernel
theorem dX5_surfacePower_74 : decode cX5_surfacePower 74 = .ok (.iload_n 3, 1) := by decide +kernel
theorem dX5_surfacePower_75 : decode cX5_surfacePower 75 = .ok (.imul, 1) := by decide +kernel
theorem dX5_surfacePower_76 : decode cX5_surfacePower 76 = .ok (.iload_n 2, 1) := by decide +kernel
theorem dX5_surfacePower_77 : decode cX5_surfacePower 77 = .ok (.bipush 10, 2) := by decide +kernel
theorem dX5_surfacePower_79 : decode cX5_surfacePower 79 = .ok (.irem, 1) := by decide +kernel
theorem dX5_surfacePower_80 : decode cX5_surfacePower 80 = .ok (.iconst 2, 1) := by decide +kernel
theorem dX5_surfacePower_81 : decode cX5_surfacePower 81 = .ok (.idiv, 1) := by decide +kernel
theorem dX5_surfacePower_82 : decode cX5_surfacePower 82 = .ok (.iadd, 1) := by decide +kernel
theorem dX5_surfacePower_83 : decode cX5_surfacePower 83 = .ok (.istore 5, 2) := by decide +kernel
theorem dX5_surfacePower_85 : decode cX5_surfacePower 85 = .ok (.iconst 2, 1) := by decide +kernel
theorem dX5_surfacePower_86 : decode cX5_surfacePower 86 = .ok (.iload 4, 2) := by decide +kernel
theorem dX5_surfacePower_88 : decode cX5_surfacePower 88 = .ok (.imul, 1) := by decide +kernel
theorem dX5_surfacePower_89 : decode cX5_surfacePower 89 = .ok (.iload_n 2, 1) := by decide +kernel
theorem dX5_surfacePower_90 : decode cX5_surfacePower 90 = .ok (.iconst 2, 1) := by decide +kernel
theorem dX5_surfacePower_91 : decode cX5_surfacePower 91 = .ok (.irem, 1) := by decide +kernel
theorem dX5_surfacePower_92 : decode cX5_surfacePower 92 = .ok (.iadd, 1) := by decide +kernel
theorem dX5_surfacePower_93 : decode cX5_surfacePower 93 = .ok (.istore 6, 2) := by decide +kernel
theorem dX5_surfacePower_95 : decode cX5_surfacePower 95 = .ok (.iload 5, 2) := by decide +kernel
theorem dX5_surfacePower_97 : decode cX5_surfacePower 97 = .ok (.iload 6, 2) := by decide +kernel
theorem dX5_surfacePower_99 : decode cX5_surfacePower 99 = .ok (.if_icmp .ne 9, 3) := by decide +kernel
theorem dX5_surfacePower_102 : decode cX5_surfacePower 102 = .ok (.ldc2_w 44, 3) := by decide +kernel
theorem dX5_surfacePower_105 : decode cX5_surfacePower 105 = .ok (.goto 19, 3) := by decide +kernel
theorem dX5_surfacePower_108 : decode cX5_surfacePower 108 = .ok (.aload_n 0, 1) := by decide +kernel
theorem dX5_surfacePower_109 : decode cX5_surfacePower 109 = .ok (.aload_n 0, 1) := by decide +kernel
theorem dX5_surfacePower_110 : decode cX5_surfacePower 110 = .ok (.getfield 19, 3) := by decide +kernel
theorem dX5_surfacePower_113 : decode cX5_surfacePower 113 = .ok (.iload_n 1, 1) := by decide +kernel
theorem dX5_surfacePower_114 : decode cX5_surfacePower 114 = .ok (.invokevirtual 147, 3) := by decide +kernel
theorem dX5_surfacePower_117 : decode cX5_surfacePower 117 = .ok (.iload 5, 2) := by decide +kernel
theorem dX5_surfacePower_119 : decode cX5_surfacePower 119 = .ok (.iload 6, 2) := by decide +kernel
theorem dX5_surfacePower_121 : decode cX5_surfacePower 121 = .ok (.invokevirtual 214, 3) := by decide +kernel
theorem dX5_surfacePower_124 : decode cX5_surfacePower 124 = .ok (.lreturn, 1) := by decide +kernel
set_option maxRecDepth 20000 in
theorem ggX5_digest_X5_withGlasses : GoodIn wsX5_digest wsX5_withGlasses := goodIn_r _ [6, 7, 8, 9, 5, 10, 11, 12, 13, 14, 15, 16, 17, 18, 19, 20, 21, 22, 23, 24, 25, 26, 27, 28, 29, 30, 31, 32, 33, 34, 35, 36, 37, 38, 39, 40, 41, 42, 43, 44, 45, 46, 47, 48, 49, 50, 51, 52, 53, 54, 55, 56, 57, 58, 59, 60, 61, 62, 63, 64, 65, 66, 67, 68, 69, 70, 71, 72, 73, 74, 75, 76, 77, 78, 79, 80, 81, 82, 83, 84, 85, 86, 87, 88, 89, 90, 91, 92, 93, 94, 95, 96, 97, 98, 99, 100, 257, 258, 259, 260, 261, 262, 263, 264, 265, 266, 267, 268, 269] (by decide +kernel) (by decide +kernel)
set_option maxRecDepth 20000 in
theorem gX5_digest_X5_withGlasses : GoodIn wsX5_digest (wsV RX5 227 RX5 yX5_withGlasses wsX5_withGlasses) := goodIn_app (goodIn_of _ (by decide +kernel)) ggX5_digest_X5_withGlasses
set_option maxRecDepth 20000 in
theorem ggX5_digest_X5_withDesigns : GoodIn wsX5_digest wsX5_withDesigns := goodIn_r _ [104, 105, 106, 107, 5, 108, 109, 7, 110, 111, 112, 113, 114, 115, 116, 117, 118, 21, 119, 52, 53, 54, 55, 32, 56, 57, 58, 59, 60, 31, 33, 120, 121, 122, 123, 124, 125, 126, 127, 128, 129, 130, 131, 132, 133, 134, 135, 136, 73, 74, 75, 137, 138, 8, 9, 10, 11, 139, 140, 141, 142, 143, 144, 145, 146, 147, 148, 149, 150, 151, 152, 153, 154, 155, 156, 157, 158, 159, 160, 161, 162, 163, 164, 165, 166, 167, 168, 169, 170, 171, 172, 173, 174, 175, 176, 177, 178, 179, 180, 181, 182, 183, 184, 185, 186, 77, 61, 62, 63, 64, 65, 66, 257, 258, 259, 260, 261, 270, 271, 272, 273, 274, 275, 262, 263, 264, 265, 266] (by decide +kernel) (by decide +kernel)
set_option maxRecDepth 20000 in
theorem gX5_digest_X5_withDesigns : GoodIn wsX5_digest (wsV RX5 230 RX5 yX5_withDesigns wsX5_withDesigns) := goodIn_app (goodIn_of _ (by decide +kernel)) ggX5_digest_X5_withDesigns
set_option maxRecDepth 20000 in
theorem ggX5_digest_X5_withLenses : GoodIn wsX5_digest wsX5_withLenses := goodIn_r _ [190, 82, 8, 9, 5, 10, 11, 191, 192, 193, 87, 194, 90, 195, 196, 197, 198, 96, 199, 200, 201, 202, 203, 7, 143, 204, 173, 186, 128, 129, 130, 205, 206, 207, 208, 89, 100, 53, 54, 21, 55, 32, 56, 209, 210, 211, 212, 213, 214, 215, 216, 217, 218, 219, 77, 61, 62, 63, 64, 65, 66, 220, 221, 222, 223, 17, 24, 25, 26, 84, 85, 86, 88, 91, 92, 93, 94, 95, 97, 98, 28, 29, 30, 31, 33, 99, 257, 258, 259, 260, 261, 267, 268, 269, 276, 277, 262, 263, 264, 265, 266] (by decide +kernel) (by decide +kernel)
set_option maxRecDepth 20000 in
theorem gX5_digest_X5_withLenses : GoodIn wsX5_digest (wsV RX5 233 RX5 yX5_withLenses wsX5_withLenses) := goodIn_app (goodIn_of _ (by decide +kernel)) ggX5_digest_X5_withLenses
set_option maxRecDepth 20000 in
theorem ggX5_digest_X5_withPlates : GoodIn wsX5_digest wsX5_withPlates := goodIn_r _ [227, 204, 8, 9, 5, 10, 11, 214, 215, 216, 217, 218, 219, 257, 258, 259, 260, 261, 276, 277] (by decide +kernel) (by decide +kernel)
set_option maxRecDepth 20000 in
theorem gX5_digest_X5_withPlates : GoodIn wsX5_digest (wsV RX5 236 RX5 yX5_withPlates wsX5_withPlates) := goodIn_app (goodIn_of _ (by decide +kernel)) ggX5_digest_X5_withPlates
set_option maxRecDepth 20000 in
theorem ggX5_digest_X5_systemPower : GoodIn wsX5_digest wsX5_systemPower := goodIn_r _ [223, 82, 7, 17, 24, 25, 5, 26, 84, 85, 86, 87, 88, 89, 90, 91, 92, 93, 94, 95, 96, 97, 98, 28, 29, 21, 30, 31, 32, 33, 99, 53, 54, 55, 56, 61, 62, 63, 64, 65, 66, 257, 258, 259, 260, 261, 267, 268, 269, 262, 263, 264, 265, 266] (by decide +kernel) (by decide +kernel)
set_option maxRecDepth 20000 in
theorem gX5_digest_X5_systemPower : GoodIn wsX5_digest (wsV RX5 239 RX5 yX5_systemPower wsX5_systemPower) := goodIn_app (goodIn_of _ (by decide +kernel)) ggX5_digest_X5_systemPower
set_option maxRecDepth 20000 in
theorem ggX5_digest_X5_findWrongGlass : GoodIn wsX5_digest wsX5_findWrongGlass := goodIn_r _ [231, 17, 82, 7, 143, 232, 233, 5, 234, 235, 236, 84, 85, 86, 87, 88, 89, 90, 91, 92, 93, 94, 95, 96, 97, 98, 28, 29, 21, 30, 31, 32, 33, 99, 53, 54, 55, 56, 61, 62, 63, 64, 65, 66, 237, 238, 239, 240, 186, 128, 129, 130, 241, 242, 243, 244, 191, 192, 193, 194, 257, 258, 259, 260, 261, 267, 268, 269, 262, 263, 264, 265, 266] (by decide +kernel) (by decide +kernel)
set_option maxRecDepth 20000 in
theorem gX5_digest_X5_findWrongGlass : GoodIn wsX5_digest (wsV RX5 242 RX5 yX5_findWrongGlass wsX5_findWrongGlass) := goodIn_app (goodIn_of _ (by decide +kernel)) ggX5_digest_X5_findWrongGlass
set_option maxRecDepth 20000 in
theorem ggX5_digest_X5_mixed : GoodIn wsX5_digest wsX5_mixed := goodIn_r _ [10, 11] (by decide +kernel) (by decide +kernel)
set_option maxRecDepth 20000 in
theorem gX5_digest_X5_mixed : GoodIn wsX5_digest (va_wsS RX5 246 yX5_mixed wsX5_mixed) := goodIn_app (goodIn_of _ (by decide +kernel)) ggX5_digest_X5_mixed
set_option maxRecDepth 20000 in
theorem ggX5_digest_X5_withBuffer : GoodIn wsX5_digest wsX5_withBuffer := goodIn_r _ [248, 249, 8, 9, 5, 10, 11, 250, 251, 252, 253, 254, 255, 256, 257, 258, 259, 260, 261, 278, 279] (by decide +kernel) (by decide +kernel)
set_option maxRecDepth 20000 in
theorem gX5_digest_X5_withBuffer : GoodIn wsX5_digest (wsV RX5 249 RX5 yX5_withBuffer wsX5_withBuffer) := goodIn_app (goodIn_of _ (by decide +kernel)) ggX5_digest_X5_withBuffer
theorem dX5_digest_0 : decode cX5_digest 0 = .ok (.ldc2_w 225, 3) := by decide +kernel
theorem dX5_digest_3 : decode cX5_digest 3 = .ok (.lstore_n 1, 1) := by decide +kernel
theorem dX5_digest_4 : decode cX5_digest 4 = .ok (.aload_n 0, 1) := by decide +kernel
theorem dX5_digest_5 : decode cX5_digest 5 = .ok (.lload_n 1, 1) := by decide +kernel
theorem dX5_digest_6 : decode cX5_digest 6 = .ok (.invokevirtual 227, 3) := by decide +kernel
theorem dX5_digest_9 : decode cX5_digest 9 = .ok (.lstore_n 1, 1) := by decide +kernel
theorem dX5_digest_10 : decode cX5_digest 10 = .ok (.aload_n 0, 1) := by decide +kernel
theorem dX5_digest_11 : decode cX5_digest 11 = .ok (.lload_n 1, 1) := by decide +kernel
theorem dX5_digest_12 : decode cX5_digest 12 = .ok (.invokevirtual 230, 3) := by decide +kernel
theorem dX5_digest_15 : decode cX5_digest 15 = .ok (.lstore_n 1, 1) := by decide +kernel
theorem dX5_digest_16 : decode cX5_digest 16 = .ok (.aload_n 0, 1) := by decide +kernel
theorem dX5_digest_17 : decode cX5_digest 17 = .ok (.lload_n 1, 1) := by decide +kernel
theorem dX5_digest_18 : decode cX5_digest 18 = .ok (.invokevirtual 233, 3) := by decide +kernel
theorem dX5_digest_21 : decode cX5_digest 21 = .ok (.lstore_n 1, 1) := by decide +kernel
theorem dX5_digest_22 : decode cX5_digest 22 = .ok (.aload_n 0, 1) := by decide +kernel
theorem dX5_digest_23 : decode cX5_digest 23 = .ok (.lload_n 1, 1) := by decide +kernel
theorem dX5_digest_24 : decode cX5_digest 24 = .ok (.invokevirtual 236, 3) := by decide +kernel
theorem dX5_digest_27 : decode cX5_digest 27 = .ok (.lstore_n 1, 1) := by decide +kernel
theorem dX5_digest_28 : decode cX5_digest 28 = .ok (.aload_n 0, 1) := by decide +kernel
theorem dX5_digest_29 : decode cX5_digest 29 = .ok (.aload_n 0, 1) := by decide +kernel
theorem dX5_digest_30 : decode cX5_digest 30 = .ok (.iconst 0, 1) := by decide +kernel
theorem dX5_digest_31 : decode cX5_digest 31 = .ok (.invokevirtual 239, 3) := by decide +kernel
theorem dX5_digest_34 : decode cX5_digest 34 = .ok (.aload_n 0, 1) := by decide +kernel
theorem dX5_digest_35 : decode cX5_digest 35 = .ok (.iconst 1, 1) := by decide +kernel
theorem dX5_digest_36 : decode cX5_digest 36 = .ok (.invokevirtual 239, 3) := by decide +kernel
theorem dX5_digest_39 : decode cX5_digest 39 = .ok (.aload_n 0, 1) := by decide +kernel
theorem dX5_digest_40 : decode cX5_digest 40 = .ok (.iconst 2, 1) := by decide +kernel
theorem dX5_digest_41 : decode cX5_digest 41 = .ok (.invokevirtual 239, 3) := by decide +kernel
theorem dX5_digest_44 : decode cX5_digest 44 = .ok (.invokevirtual 242, 3) := by decide +kernel
theorem dX5_digest_47 : decode cX5_digest 47 = .ok (.lstore_n 3, 1) := by decide +kernel
theorem dX5_digest_48 : decode cX5_digest 48 = .ok (.lload_n 1, 1) := by decide +kernel
theorem dX5_digest_49 : decode cX5_digest 49 = .ok (.lload_n 3, 1) := by decide +kernel
theorem dX5_digest_50 : decode cX5_digest 50 = .ok (.invokestatic 246, 3) := by decide +kernel
theorem dX5_digest_53 : decode cX5_digest 53 = .ok (.lstore_n 1, 1) := by decide +kernel
theorem dX5_digest_54 : decode cX5_digest 54 = .ok (.aload_n 0, 1) := by decide +kernel
theorem dX5_digest_55 : decode cX5_digest 55 = .ok (.lload_n 1, 1) := by decide +kernel
theorem dX5_digest_56 : decode cX5_digest 56 = .ok (.invokevirtual 249, 3) := by decide +kernel
theorem dX5_digest_59 : decode cX5_digest 59 = .ok (.lreturn, 1) := by decide +kernel
theorem dX5_isColour_0 : decode cX5_isColour 0 = .ok (.iload_n 0, 1) := by decide +kernel
theorem dX5_isColour_1 : decode cX5_isColour 1 = .ok (.ifCond .lt 12, 3) := by decide +kernel
theorem dX5_isColour_4 : decode cX5_isColour 4 = .ok (.iload_n 0, 1) := by decide +kernel
theorem dX5_isColour_5 : decode cX5_isColour 5 = .ok (.iconst 2, 1) := by decide +kernel
