theorem dX5_isColour_6 : decode cX5_isColour 6 = .ok (.if_icmp .gt 7, 3) := by decide +kernel
theorem dX5_isColour_9 : decode cX5_isColour 9 = .ok (.iconst 1, 1) := by decide +kernel
theorem dX5_isColour_10 : decode cX5_isColour 10 = .ok (.goto 4, 3) := by decide +kernel
theorem dX5_isColour_13 : decode cX5_isColour 13 = .ok (.iconst 0, 1) := by decide +kernel
theorem dX5_isColour_14 : decode cX5_isColour 14 = .ok (.ireturn, 1) := by decide +kernel
theorem dX5_isDesignPower_0 : decode cX5_isDesignPower 0 = .ok (.iload_n 0, 1) := by decide +kernel
theorem dX5_isDesignPower_1 : decode cX5_isDesignPower 1 = .ok (.sipush (-10000), 3) := by decide +kernel
theorem dX5_isDesignPower_4 : decode cX5_isDesignPower 4 = .ok (.if_icmp .lt 14, 3) := by decide +kernel
theorem dX5_isDesignPower_7 : decode cX5_isDesignPower 7 = .ok (.iload_n 0, 1) := by decide +kernel
theorem dX5_isDesignPower_8 : decode cX5_isDesignPower 8 = .ok (.sipush 10000, 3) := by decide +kernel
theorem dX5_isDesignPower_11 : decode cX5_isDesignPower 11 = .ok (.if_icmp .gt 7, 3) := by decide +kernel
theorem dX5_isDesignPower_14 : decode cX5_isDesignPower 14 = .ok (.iconst 1, 1) := by decide +kernel
theorem dX5_isDesignPower_15 : decode cX5_isDesignPower 15 = .ok (.goto 4, 3) := by decide +kernel
theorem dX5_isDesignPower_18 : decode cX5_isDesignPower 18 = .ok (.iconst 0, 1) := by decide +kernel
theorem dX5_isDesignPower_19 : decode cX5_isDesignPower 19 = .ok (.ireturn, 1) := by decide +kernel
theorem dX5_isMeasurable_0 : decode cX5_isMeasurable 0 = .ok (.lload_n 0, 1) := by decide +kernel
theorem dX5_isMeasurable_1 : decode cX5_isMeasurable 1 = .ok (.ldc2_w 252, 3) := by decide +kernel
theorem dX5_isMeasurable_4 : decode cX5_isMeasurable 4 = .ok (.lcmp, 1) := by decide +kernel
theorem dX5_isMeasurable_5 : decode cX5_isMeasurable 5 = .ok (.ifCond .lt 15, 3) := by decide +kernel
theorem dX5_isMeasurable_8 : decode cX5_isMeasurable 8 = .ok (.lload_n 0, 1) := by decide +kernel
theorem dX5_isMeasurable_9 : decode cX5_isMeasurable 9 = .ok (.ldc2_w 254, 3) := by decide +kernel
theorem dX5_isMeasurable_12 : decode cX5_isMeasurable 12 = .ok (.lcmp, 1) := by decide +kernel
theorem dX5_isMeasurable_13 : decode cX5_isMeasurable 13 = .ok (.ifCond .gt 7, 3) := by decide +kernel
theorem dX5_isMeasurable_16 : decode cX5_isMeasurable 16 = .ok (.iconst 1, 1) := by decide +kernel
theorem dX5_isMeasurable_17 : decode cX5_isMeasurable 17 = .ok (.goto 4, 3) := by decide +kernel
theorem dX5_isMeasurable_20 : decode cX5_isMeasurable 20 = .ok (.iconst 0, 1) := by decide +kernel
theorem dX5_isMeasurable_21 : decode cX5_isMeasurable 21 = .ok (.ireturn, 1) := by decide +kernel
theorem dX5_areGlassIndices_0 : decode cX5_areGlassIndices 0 = .ok (.ldc_w 256, 3) := by decide +kernel
theorem dX5_areGlassIndices_3 : decode cX5_areGlassIndices 3 = .ok (.iload_n 2, 1) := by decide +kernel
theorem dX5_areGlassIndices_4 : decode cX5_areGlassIndices 4 = .ok (.if_icmp .gt 33, 3) := by decide +kernel
theorem dX5_areGlassIndices_7 : decode cX5_areGlassIndices 7 = .ok (.iload_n 2, 1) := by decide +kernel
theorem dX5_areGlassIndices_8 : decode cX5_areGlassIndices 8 = .ok (.iload_n 1, 1) := by decide +kernel
theorem dX5_areGlassIndices_9 : decode cX5_areGlassIndices 9 = .ok (.if_icmp .ge 28, 3) := by decide +kernel
theorem dX5_areGlassIndices_12 : decode cX5_areGlassIndices 12 = .ok (.iload_n 1, 1) := by decide +kernel
theorem dX5_areGlassIndices_13 : decode cX5_areGlassIndices 13 = .ok (.iload_n 0, 1) := by decide +kernel
theorem dX5_areGlassIndices_14 : decode cX5_areGlassIndices 14 = .ok (.if_icmp .ge 23, 3) := by decide +kernel
theorem dX5_areGlassIndices_17 : decode cX5_areGlassIndices 17 = .ok (.iload_n 0, 1) := by decide +kernel
theorem dX5_areGlassIndices_18 : decode cX5_areGlassIndices 18 = .ok (.ldc_w 257, 3) := by decide +kernel
theorem dX5_areGlassIndices_21 : decode cX5_areGlassIndices 21 = .ok (.if_icmp .gt 16, 3) := by decide +kernel
theorem dX5_areGlassIndices_24 : decode cX5_areGlassIndices 24 = .ok (.iload_n 0, 1) := by decide +kernel
theorem dX5_areGlassIndices_25 : decode cX5_areGlassIndices 25 = .ok (.iload_n 2, 1) := by decide +kernel
theorem dX5_areGlassIndices_26 : decode cX5_areGlassIndices 26 = .ok (.isub, 1) := by decide +kernel
theorem dX5_areGlassIndices_27 : decode cX5_areGlassIndices 27 = .ok (.sipush 9999, 3) := by decide +kernel
theorem dX5_areGlassIndices_30 : decode cX5_areGlassIndices 30 = .ok (.if_icmp .gt 7, 3) := by decide +kernel
theorem dX5_areGlassIndices_33 : decode cX5_areGlassIndices 33 = .ok (.iconst 1, 1) := by decide +kernel
theorem dX5_areGlassIndices_34 : decode cX5_areGlassIndices 34 = .ok (.goto 4, 3) := by decide +kernel
theorem dX5_areGlassIndices_37 : decode cX5_areGlassIndices 37 = .ok (.iconst 0, 1) := by decide +kernel
theorem dX5_areGlassIndices_38 : decode cX5_areGlassIndices 38 = .ok (.ireturn, 1) := by decide +kernel
set_option maxRecDepth 20000 in
theorem ggX5_floorQuotient_J9_floorDiv_f86c9 : GoodIn wsX5_floorQuotient wsJ9_floorDiv_f86c9 := goodIn_r _ [4] (by decide +kernel) (by decide +kernel)
set_option maxRecDepth 20000 in
theorem gX5_floorQuotient_J9_floorDiv_f86c9 : GoodIn wsX5_floorQuotient (va_wsS RX5 258 yJ9_floorDiv_f86c9 wsJ9_floorDiv_f86c9) := goodIn_app (goodIn_of _ (by decide +kernel)) ggX5_floorQuotient_J9_floorDiv_f86c9
theorem dX5_floorQuotient_0 : decode cX5_floorQuotient 0 = .ok (.lload_n 2, 1) := by decide +kernel
theorem dX5_floorQuotient_1 : decode cX5_floorQuotient 1 = .ok (.lconst 0, 1) := by decide +kernel
theorem dX5_floorQuotient_2 : decode cX5_floorQuotient 2 = .ok (.lcmp, 1) := by decide +kernel
theorem dX5_floorQuotient_3 : decode cX5_floorQuotient 3 = .ok (.ifCond .ne 7, 3) := by decide +kernel
theorem dX5_floorQuotient_6 : decode cX5_floorQuotient 6 = .ok (.lconst 0, 1) := by decide +kernel
theorem dX5_floorQuotient_7 : decode cX5_floorQuotient 7 = .ok (.goto 8, 3) := by decide +kernel
theorem dX5_floorQuotient_10 : decode cX5_floorQuotient 10 = .ok (.lload_n 0, 1) := by decide +kernel
theorem dX5_floorQuotient_11 : decode cX5_floorQuotient 11 = .ok (.lload_n 2, 1) := by decide +kernel
theorem dX5_floorQuotient_12 : decode cX5_floorQuotient 12 = .ok (.invokestatic 258, 3) := by decide +kernel
theorem dX5_floorQuotient_15 : decode cX5_floorQuotient 15 = .ok (.lreturn, 1) := by decide +kernel
set_option maxRecDepth 20000 in
theorem ggX5_greatestTripletPower_X0_tripletShare : GoodIn wsX5_greatestTripletPower wsX0_tripletShare := goodIn_r _ [11, 12, 13, 14, 10, 15, 16, 17, 18, 19, 20, 21, 22, 23, 24, 25, 26, 27, 28, 29, 30, 31, 52, 53, 54, 55, 56] (by decide +kernel) (by decide +kernel)
set_option maxRecDepth 20000 in
theorem gX5_greatestTripletPower_X0_tripletShare : GoodIn wsX5_greatestTripletPower (wsV RX5 169 RX0 yX0_tripletShare wsX0_tripletShare) := goodIn_app (goodIn_of _ (by decide +kernel)) ggX5_greatestTripletPower_X0_tripletShare
set_option maxRecDepth 20000 in
theorem ggX5_greatestTripletPower_X5_absolutePower : GoodIn wsX5_greatestTripletPower wsX5_absolutePower := goodIn_r _ [35, 36, 37, 38, 5, 39, 40, 41, 34, 42, 43, 44, 45, 46] (by decide +kernel) (by decide +kernel)
set_option maxRecDepth 20000 in
theorem gX5_greatestTripletPower_X5_absolutePower : GoodIn wsX5_greatestTripletPower (va_wsS RX5 261 yX5_absolutePower wsX5_absolutePower) := goodIn_app (goodIn_of _ (by decide +kernel)) ggX5_greatestTripletPower_X5_absolutePower
theorem dX5_greatestTripletPower_0 : decode cX5_greatestTripletPower 0 = .ok (.aload_n 0, 1) := by decide +kernel
theorem dX5_greatestTripletPower_1 : decode cX5_greatestTripletPower 1 = .ok (.getfield 19, 3) := by decide +kernel
theorem dX5_greatestTripletPower_4 : decode cX5_greatestTripletPower 4 = .ok (.iload_n 1, 1) := by decide +kernel
theorem dX5_greatestTripletPower_5 : decode cX5_greatestTripletPower 5 = .ok (.iload_n 2, 1) := by decide +kernel
theorem dX5_greatestTripletPower_6 : decode cX5_greatestTripletPower 6 = .ok (.iload_n 3, 1) := by decide +kernel
theorem dX5_greatestTripletPower_7 : decode cX5_greatestTripletPower 7 = .ok (.invokevirtual 169, 3) := by decide +kernel
theorem dX5_greatestTripletPower_10 : decode cX5_greatestTripletPower 10 = .ok (.lstore 4, 2) := by decide +kernel
theorem dX5_greatestTripletPower_12 : decode cX5_greatestTripletPower 12 = .ok (.aload_n 0, 1) := by decide +kernel
theorem dX5_greatestTripletPower_13 : decode cX5_greatestTripletPower 13 = .ok (.getfield 19, 3) := by decide +kernel
theorem dX5_greatestTripletPower_16 : decode cX5_greatestTripletPower 16 = .ok (.iload_n 2, 1) := by decide +kernel
theorem dX5_greatestTripletPower_17 : decode cX5_greatestTripletPower 17 = .ok (.iload_n 3, 1) := by decide +kernel
theorem dX5_greatestTripletPower_18 : decode cX5_greatestTripletPower 18 = .ok (.iload_n 1, 1) := by decide +kernel
theorem dX5_greatestTripletPower_19 : decode cX5_greatestTripletPower 19 = .ok (.invokevirtual 169, 3) := by decide +kernel
theorem dX5_greatestTripletPower_22 : decode cX5_greatestTripletPower 22 = .ok (.lstore 6, 2) := by decide +kernel
theorem dX5_greatestTripletPower_24 : decode cX5_greatestTripletPower 24 = .ok (.aload_n 0, 1) := by decide +kernel
theorem dX5_greatestTripletPower_25 : decode cX5_greatestTripletPower 25 = .ok (.getfield 19, 3) := by decide +kernel
theorem dX5_greatestTripletPower_28 : decode cX5_greatestTripletPower 28 = .ok (.iload_n 3, 1) := by decide +kernel
theorem dX5_greatestTripletPower_29 : decode cX5_greatestTripletPower 29 = .ok (.iload_n 1, 1) := by decide +kernel
theorem dX5_greatestTripletPower_30 : decode cX5_greatestTripletPower 30 = .ok (.iload_n 2, 1) := by decide +kernel
theorem dX5_greatestTripletPower_31 : decode cX5_greatestTripletPower 31 = .ok (.invokevirtual 169, 3) := by decide +kernel
theorem dX5_greatestTripletPower_34 : decode cX5_greatestTripletPower 34 = .ok (.lstore 8, 2) := by decide +kernel
theorem dX5_greatestTripletPower_36 : decode cX5_greatestTripletPower 36 = .ok (.lload 4, 2) := by decide +kernel
theorem dX5_greatestTripletPower_38 : decode cX5_greatestTripletPower 38 = .ok (.lload 6, 2) := by decide +kernel
theorem dX5_greatestTripletPower_40 : decode cX5_greatestTripletPower 40 = .ok (.ladd, 1) := by decide +kernel
theorem dX5_greatestTripletPower_41 : decode cX5_greatestTripletPower 41 = .ok (.lload 8, 2) := by decide +kernel
theorem dX5_greatestTripletPower_43 : decode cX5_greatestTripletPower 43 = .ok (.ladd, 1) := by decide +kernel
theorem dX5_greatestTripletPower_44 : decode cX5_greatestTripletPower 44 = .ok (.lstore 10, 2) := by decide +kernel
theorem dX5_greatestTripletPower_46 : decode cX5_greatestTripletPower 46 = .ok (.lload 10, 2) := by decide +kernel
theorem dX5_greatestTripletPower_48 : decode cX5_greatestTripletPower 48 = .ok (.lconst 0, 1) := by decide +kernel
theorem dX5_greatestTripletPower_49 : decode cX5_greatestTripletPower 49 = .ok (.lcmp, 1) := by decide +kernel
theorem dX5_greatestTripletPower_50 : decode cX5_greatestTripletPower 50 = .ok (.ifCond .ne 7, 3) := by decide +kernel
theorem dX5_greatestTripletPower_53 : decode cX5_greatestTripletPower 53 = .ok (.ldc2_w 212, 3) := by decide +kernel
theorem dX5_greatestTripletPower_56 : decode cX5_greatestTripletPower 56 = .ok (.lreturn, 1) := by decide +kernel
theorem dX5_greatestTripletPower_57 : decode cX5_greatestTripletPower 57 = .ok (.lload 6, 2) := by decide +kernel
theorem dX5_greatestTripletPower_59 : decode cX5_greatestTripletPower 59 = .ok (.lload 10, 2) := by decide +kernel
theorem dX5_greatestTripletPower_61 : decode cX5_greatestTripletPower 61 = .ok (.invokestatic 261, 3) := by decide +kernel
theorem dX5_greatestTripletPower_64 : decode cX5_greatestTripletPower 64 = .ok (.lload 8, 2) := by decide +kernel
theorem dX5_greatestTripletPower_66 : decode cX5_greatestTripletPower 66 = .ok (.lload 10, 2) := by decide +kernel
theorem dX5_greatestTripletPower_68 : decode cX5_greatestTripletPower 68 = .ok (.invokestatic 261, 3) := by decide +kernel
theorem dX5_greatestTripletPower_71 : decode cX5_greatestTripletPower 71 = .ok (.invokestatic 264, 3) := by decide +kernel
theorem dX5_greatestTripletPower_74 : decode cX5_greatestTripletPower 74 = .ok (.lstore 12, 2) := by decide +kernel
theorem dX5_greatestTripletPower_76 : decode cX5_greatestTripletPower 76 = .ok (.lload 4, 2) := by decide +kernel
theorem dX5_greatestTripletPower_78 : decode cX5_greatestTripletPower 78 = .ok (.lload 10, 2) := by decide +kernel
theorem dX5_greatestTripletPower_80 : decode cX5_greatestTripletPower 80 = .ok (.invokestatic 261, 3) := by decide +kernel
theorem dX5_greatestTripletPower_83 : decode cX5_greatestTripletPower 83 = .ok (.lload 12, 2) := by decide +kernel
theorem dX5_greatestTripletPower_85 : decode cX5_greatestTripletPower 85 = .ok (.invokestatic 264, 3) := by decide +kernel
theorem dX5_greatestTripletPower_88 : decode cX5_greatestTripletPower 88 = .ok (.lreturn, 1) := by decide +kernel
set_option maxRecDepth 20000 in
theorem ggX5_absolutePower_X5_floorQuotient : GoodIn wsX5_absolutePower wsX5_floorQuotient := goodIn_r _ [9, 10, 11, 12, 13] (by decide +kernel) (by decide +kernel)
set_option maxRecDepth 20000 in
theorem gX5_absolutePower_X5_floorQuotient : GoodIn wsX5_absolutePower (va_wsS RX5 132 yX5_floorQuotient wsX5_floorQuotient) := goodIn_app (goodIn_of _ (by decide +kernel)) ggX5_absolutePower_X5_floorQuotient
theorem dX5_absolutePower_0 : decode cX5_absolutePower 0 = .ok (.ldc2_w 267, 3) := by decide +kernel
theorem dX5_absolutePower_3 : decode cX5_absolutePower 3 = .ok (.lload_n 0, 1) := by decide +kernel
theorem dX5_absolutePower_4 : decode cX5_absolutePower 4 = .ok (.lmul, 1) := by decide +kernel
theorem dX5_absolutePower_5 : decode cX5_absolutePower 5 = .ok (.lload_n 2, 1) := by decide +kernel
theorem dX5_absolutePower_6 : decode cX5_absolutePower 6 = .ok (.invokestatic 132, 3) := by decide +kernel
theorem dX5_absolutePower_9 : decode cX5_absolutePower 9 = .ok (.invokestatic 218, 3) := by decide +kernel
theorem dX5_absolutePower_12 : decode cX5_absolutePower 12 = .ok (.lreturn, 1) := by decide +kernel
set_option maxRecDepth 20000 in
theorem ggX5_missWith_X3_changeWith : GoodIn wsX5_missWith wsX3_changeWith := goodIn_r _ [11, 12, 13, 14, 15, 10, 16, 17, 18, 19, 20, 21, 22, 23, 24, 25, 26, 27, 28, 29, 30, 31, 32, 33, 34, 35, 36, 37, 38, 39, 45, 46, 47, 48, 49, 50, 51, 52] (by decide +kernel) (by decide +kernel)
set_option maxRecDepth 20000 in
theorem gX5_missWith_X3_changeWith : GoodIn wsX5_missWith (wsV RX5 269 RX3 yX3_changeWith wsX3_changeWith) := goodIn_app (goodIn_of _ (by decide +kernel)) ggX5_missWith_X3_changeWith
theorem dX5_missWith_0 : decode cX5_missWith 0 = .ok (.lload_n 3, 1) := by decide +kernel
theorem dX5_missWith_1 : decode cX5_missWith 1 = .ok (.aload_n 0, 1) := by decide +kernel
theorem dX5_missWith_2 : decode cX5_missWith 2 = .ok (.getfield 33, 3) := by decide +kernel
theorem dX5_missWith_5 : decode cX5_missWith 5 = .ok (.iload_n 1, 1) := by decide +kernel
theorem dX5_missWith_6 : decode cX5_missWith 6 = .ok (.iload_n 2, 1) := by decide +kernel
theorem dX5_missWith_7 : decode cX5_missWith 7 = .ok (.iconst 0, 1) := by decide +kernel
theorem dX5_missWith_8 : decode cX5_missWith 8 = .ok (.aload_n 0, 1) := by decide +kernel
theorem dX5_missWith_9 : decode cX5_missWith 9 = .ok (.getfield 19, 3) := by decide +kernel
theorem dX5_missWith_12 : decode cX5_missWith 12 = .ok (.invokevirtual 269, 3) := by decide +kernel
theorem dX5_missWith_15 : decode cX5_missWith 15 = .ok (.ladd, 1) := by decide +kernel
theorem dX5_missWith_16 : decode cX5_missWith 16 = .ok (.invokestatic 218, 3) := by decide +kernel
theorem dX5_missWith_19 : decode cX5_missWith 19 = .ok (.lload 5, 2) := by decide +kernel
theorem dX5_missWith_21 : decode cX5_missWith 21 = .ok (.aload_n 0, 1) := by decide +kernel
theorem dX5_missWith_22 : decode cX5_missWith 22 = .ok (.getfield 33, 3) := by decide +kernel
theorem dX5_missWith_25 : decode cX5_missWith 25 = .ok (.iload_n 1, 1) := by decide +kernel
theorem dX5_missWith_26 : decode cX5_missWith 26 = .ok (.iload_n 2, 1) := by decide +kernel
theorem dX5_missWith_27 : decode cX5_missWith 27 = .ok (.iconst 1, 1) := by decide +kernel
theorem dX5_missWith_28 : decode cX5_missWith 28 = .ok (.aload_n 0, 1) := by decide +kernel
theorem dX5_missWith_29 : decode cX5_missWith 29 = .ok (.getfield 19, 3) := by decide +kernel
theorem dX5_missWith_32 : decode cX5_missWith 32 = .ok (.invokevirtual 269, 3) := by decide +kernel
theorem dX5_missWith_35 : decode cX5_missWith 35 = .ok (.ladd, 1) := by decide +kernel
theorem dX5_missWith_36 : decode cX5_missWith 36 = .ok (.invokestatic 218, 3) := by decide +kernel
theorem dX5_missWith_39 : decode cX5_missWith 39 = .ok (.ladd, 1) := by decide +kernel
theorem dX5_missWith_40 : decode cX5_missWith 40 = .ok (.lload 7, 2) := by decide +kernel
theorem dX5_missWith_42 : decode cX5_missWith 42 = .ok (.aload_n 0, 1) := by decide +kernel
theorem dX5_missWith_43 : decode cX5_missWith 43 = .ok (.getfield 33, 3) := by decide +kernel
theorem dX5_missWith_46 : decode cX5_missWith 46 = .ok (.iload_n 1, 1) := by decide +kernel
theorem dX5_missWith_47 : decode cX5_missWith 47 = .ok (.iload_n 2, 1) := by decide +kernel
theorem dX5_missWith_48 : decode cX5_missWith 48 = .ok (.iconst 2, 1) := by decide +kernel
theorem dX5_missWith_49 : decode cX5_missWith 49 = .ok (.aload_n 0, 1) := by decide +kernel
theorem dX5_missWith_50 : decode cX5_missWith 50 = .ok (.getfield 19, 3) := by decide +kernel
theorem dX5_missWith_53 : decode cX5_missWith 53 = .ok (.invokevirtual 269, 3) := by decide +kernel
theorem dX5_missWith_56 : decode cX5_missWith 56 = .ok (.ladd, 1) := by decide +kernel
theorem dX5_missWith_57 : decode cX5_missWith 57 = .ok (.invokestatic 218, 3) := by decide +kernel
theorem dX5_missWith_60 : decode cX5_missWith 60 = .ok (.ladd, 1) := by decide +kernel
theorem dX5_missWith_61 : decode cX5_missWith 61 = .ok (.lreturn, 1) := by decide +kernel
set_option maxRecDepth 20000 in
theorem ggX5_powerBetween_X4_signedRadius : GoodIn wsX5_powerBetween wsX4_signedRadius := goodIn_r _ [7, 8, 22, 23] (by decide +kernel) (by decide +kernel)
set_option maxRecDepth 20000 in
theorem gX5_powerBetween_X4_signedRadius : GoodIn wsX5_powerBetween (wsV RX5 273 RX4 yX4_signedRadius wsX4_signedRadius) := goodIn_app (goodIn_of _ (by decide +kernel)) ggX5_powerBetween_X4_signedRadius
set_option maxRecDepth 20000 in
theorem ggX5_powerBetween_X5_floorQuotient : GoodIn wsX5_powerBetween wsX5_floorQuotient := goodIn_r _ [12, 13, 14, 15, 16] (by decide +kernel) (by decide +kernel)
set_option maxRecDepth 20000 in
theorem gX5_powerBetween_X5_floorQuotient : GoodIn wsX5_powerBetween (va_wsS RX5 132 yX5_floorQuotient wsX5_floorQuotient) := goodIn_app (goodIn_of _ (by decide +kernel)) ggX5_powerBetween_X5_floorQuotient
theorem dX5_powerBetween_0 : decode cX5_powerBetween 0 = .ok (.aload_n 0, 1) := by decide +kernel
theorem dX5_powerBetween_1 : decode cX5_powerBetween 1 = .ok (.getfield 40, 3) := by decide +kernel
theorem dX5_powerBetween_4 : decode cX5_powerBetween 4 = .ok (.iload_n 3, 1) := by decide +kernel
theorem dX5_powerBetween_5 : decode cX5_powerBetween 5 = .ok (.invokevirtual 273, 3) := by decide +kernel
theorem dX5_powerBetween_8 : decode cX5_powerBetween 8 = .ok (.lstore 5, 2) := by decide +kernel
theorem dX5_powerBetween_10 : decode cX5_powerBetween 10 = .ok (.aload_n 0, 1) := by decide +kernel
theorem dX5_powerBetween_11 : decode cX5_powerBetween 11 = .ok (.getfield 40, 3) := by decide +kernel
theorem dX5_powerBetween_14 : decode cX5_powerBetween 14 = .ok (.iload 4, 2) := by decide +kernel
theorem dX5_powerBetween_16 : decode cX5_powerBetween 16 = .ok (.invokevirtual 273, 3) := by decide +kernel
theorem dX5_powerBetween_19 : decode cX5_powerBetween 19 = .ok (.lstore 7, 2) := by decide +kernel
theorem dX5_powerBetween_21 : decode cX5_powerBetween 21 = .ok (.lload_n 1, 1) := by decide +kernel
theorem dX5_powerBetween_22 : decode cX5_powerBetween 22 = .ok (.ldc2_w 276, 3) := by decide +kernel
theorem dX5_powerBetween_25 : decode cX5_powerBetween 25 = .ok (.lmul, 1) := by decide +kernel
theorem dX5_powerBetween_26 : decode cX5_powerBetween 26 = .ok (.lload 7, 2) := by decide +kernel
theorem dX5_powerBetween_28 : decode cX5_powerBetween 28 = .ok (.lload 5, 2) := by decide +kernel
theorem dX5_powerBetween_30 : decode cX5_powerBetween 30 = .ok (.lsub, 1) := by decide +kernel
theorem dX5_powerBetween_31 : decode cX5_powerBetween 31 = .ok (.lmul, 1) := by decide +kernel
theorem dX5_powerBetween_32 : decode cX5_powerBetween 32 = .ok (.lload 5, 2) := by decide +kernel
theorem dX5_powerBetween_34 : decode cX5_powerBetween 34 = .ok (.lload 7, 2) := by decide +kernel
theorem dX5_powerBetween_36 : decode cX5_powerBetween 36 = .ok (.lmul, 1) := by decide +kernel
theorem dX5_powerBetween_37 : decode cX5_powerBetween 37 = .ok (.invokestatic 132, 3) := by decide +kernel
theorem dX5_powerBetween_40 : decode cX5_powerBetween 40 = .ok (.lreturn, 1) := by decide +kernel
theorem dX5_mixed_0 : decode cX5_mixed 0 = .ok (.ldc2_w 278, 3) := by decide +kernel
theorem dX5_mixed_3 : decode cX5_mixed 3 = .ok (.lload_n 0, 1) := by decide +kernel
theorem dX5_mixed_4 : decode cX5_mixed 4 = .ok (.lmul, 1) := by decide +kernel
theorem dX5_mixed_5 : decode cX5_mixed 5 = .ok (.lload_n 2, 1) := by decide +kernel
theorem dX5_mixed_6 : decode cX5_mixed 6 = .ok (.ladd, 1) := by decide +kernel
theorem dX5_mixed_7 : decode cX5_mixed 7 = .ok (.lreturn, 1) := by decide +kernel
set_option maxRecDepth 20000 in
theorem ggX5_withGlasses_X5_mixed : GoodIn wsX5_withGlasses wsX5_mixed := goodIn_r _ [5, 6] (by decide +kernel) (by decide +kernel)
set_option maxRecDepth 20000 in
theorem gX5_withGlasses_X5_mixed : GoodIn wsX5_withGlasses (va_wsS RX5 246 yX5_mixed wsX5_mixed) := goodIn_app (goodIn_of _ (by decide +kernel)) ggX5_withGlasses_X5_mixed
set_option maxRecDepth 20000 in
theorem ggX5_withGlasses_X5_index : GoodIn wsX5_withGlasses wsX5_index := goodIn_r _ [10, 1, 11, 12, 13, 14, 15, 16, 17, 18, 19, 20, 4, 21, 22, 23, 24, 25, 26, 27, 28, 96, 97, 98, 99, 100, 101, 102, 103, 104, 105] (by decide +kernel) (by decide +kernel)
set_option maxRecDepth 20000 in
theorem gX5_withGlasses_X5_index : GoodIn wsX5_withGlasses (wsV RX5 280 RX5 yX5_index wsX5_index) := goodIn_app (goodIn_of _ (by decide +kernel)) ggX5_withGlasses_X5_index
set_option maxRecDepth 20000 in
theorem ggX5_withGlasses_X5_placeByName : GoodIn wsX5_withGlasses wsX5_placeByName := goodIn_r _ [32, 1, 11, 13, 14, 15, 16, 17, 18, 33, 34, 35, 36, 37, 96, 97, 98, 99, 100, 101, 102, 103, 104, 105] (by decide +kernel) (by decide +kernel)
set_option maxRecDepth 20000 in
theorem gX5_withGlasses_X5_placeByName : GoodIn wsX5_withGlasses (wsV RX5 283 RX5 yX5_placeByName wsX5_placeByName) := goodIn_app (goodIn_of _ (by decide +kernel)) ggX5_withGlasses_X5_placeByName
set_option maxRecDepth 20000 in
theorem ggX5_withGlasses_X5_abbe : GoodIn wsX5_withGlasses wsX5_abbe := goodIn_r _ [41, 1, 11, 13, 14, 15, 16, 17, 18, 42, 43, 44, 45, 46, 47, 48, 49, 50, 27, 51, 52, 53, 54, 55, 26, 28, 56, 4, 57, 58, 59, 60, 61, 96, 97, 98, 99, 100, 101, 102, 103, 104, 105] (by decide +kernel) (by decide +kernel)
set_option maxRecDepth 20000 in
theorem gX5_withGlasses_X5_abbe : GoodIn wsX5_withGlasses (wsV RX5 286 RX5 yX5_abbe wsX5_abbe) := goodIn_app (goodIn_of _ (by decide +kernel)) ggX5_withGlasses_X5_abbe
set_option maxRecDepth 20000 in
theorem ggX5_withGlasses_X5_partial : GoodIn wsX5_withGlasses wsX5_partial := goodIn_r _ [65, 1, 11, 66, 13, 14, 15, 16, 17, 18, 67, 68, 69, 70, 26, 27, 71, 53, 54, 55, 28, 72, 56, 4, 57, 58, 59, 60, 61, 96, 97, 98, 99, 100, 101, 102, 103, 104, 105] (by decide +kernel) (by decide +kernel)
set_option maxRecDepth 20000 in
theorem gX5_withGlasses_X5_partial : GoodIn wsX5_withGlasses (wsV RX5 289 RX5 yX5_partial wsX5_partial) := goodIn_app (goodIn_of _ (by decide +kernel)) ggX5_withGlasses_X5_partial
set_option maxRecDepth 20000 in
theorem ggX5_withGlasses_X5_balancePower : GoodIn wsX5_withGlasses wsX5_balancePower := goodIn_r _ [76, 1, 11, 77, 78, 13, 14, 15, 16, 17, 18, 79, 80, 81, 82, 83, 84, 85, 86, 87, 88, 89, 90, 91, 92, 93, 23, 24, 25, 26, 27, 28, 94, 48, 49, 50, 51, 56, 4, 57, 58, 59, 60, 61, 95, 71, 53, 54, 55, 72, 96, 97, 98, 99, 100, 101, 102, 103, 104, 105, 106, 107, 108] (by decide +kernel) (by decide +kernel)
set_option maxRecDepth 20000 in
theorem gX5_withGlasses_X5_balancePower : GoodIn wsX5_withGlasses (wsV RX5 292 RX5 yX5_balancePower wsX5_balancePower) := goodIn_app (goodIn_of _ (by decide +kernel)) ggX5_withGlasses_X5_balancePower
theorem dX5_withGlasses_0 : decode cX5_withGlasses 0 = .ok (.lload_n 1, 1) := by decide +kernel
theorem dX5_withGlasses_1 : decode cX5_withGlasses 1 = .ok (.aload_n 0, 1) := by decide +kernel
theorem dX5_withGlasses_2 : decode cX5_withGlasses 2 = .ok (.getfield 19, 3) := by decide +kernel
theorem dX5_withGlasses_5 : decode cX5_withGlasses 5 = .ok (.getfield 77, 3) := by decide +kernel
theorem dX5_withGlasses_8 : decode cX5_withGlasses 8 = .ok (.i2l, 1) := by decide +kernel
theorem dX5_withGlasses_9 : decode cX5_withGlasses 9 = .ok (.invokestatic 246, 3) := by decide +kernel
theorem dX5_withGlasses_12 : decode cX5_withGlasses 12 = .ok (.lstore_n 3, 1) := by decide +kernel
theorem dX5_withGlasses_13 : decode cX5_withGlasses 13 = .ok (.iconst 0, 1) := by decide +kernel
theorem dX5_withGlasses_14 : decode cX5_withGlasses 14 = .ok (.istore 5, 2) := by decide +kernel
theorem dX5_withGlasses_16 : decode cX5_withGlasses 16 = .ok (.iload 5, 2) := by decide +kernel
theorem dX5_withGlasses_18 : decode cX5_withGlasses 18 = .ok (.aload_n 0, 1) := by decide +kernel
theorem dX5_withGlasses_19 : decode cX5_withGlasses 19 = .ok (.getfield 19, 3) := by decide +kernel
theorem dX5_withGlasses_22 : decode cX5_withGlasses 22 = .ok (.getfield 77, 3) := by decide +kernel
theorem dX5_withGlasses_25 : decode cX5_withGlasses 25 = .ok (.if_icmp .ge 81, 3) := by decide +kernel
theorem dX5_withGlasses_28 : decode cX5_withGlasses 28 = .ok (.iconst 0, 1) := by decide +kernel
theorem dX5_withGlasses_29 : decode cX5_withGlasses 29 = .ok (.istore 6, 2) := by decide +kernel
theorem dX5_withGlasses_31 : decode cX5_withGlasses 31 = .ok (.iload 6, 2) := by decide +kernel
theorem dX5_withGlasses_33 : decode cX5_withGlasses 33 = .ok (.iconst 2, 1) := by decide +kernel
theorem dX5_withGlasses_34 : decode cX5_withGlasses 34 = .ok (.if_icmp .gt 22, 3) := by decide +kernel
theorem dX5_withGlasses_37 : decode cX5_withGlasses 37 = .ok (.lload_n 3, 1) := by decide +kernel
theorem dX5_withGlasses_38 : decode cX5_withGlasses 38 = .ok (.aload_n 0, 1) := by decide +kernel
theorem dX5_withGlasses_39 : decode cX5_withGlasses 39 = .ok (.iload 5, 2) := by decide +kernel
theorem dX5_withGlasses_41 : decode cX5_withGlasses 41 = .ok (.iload 6, 2) := by decide +kernel
theorem dX5_withGlasses_43 : decode cX5_withGlasses 43 = .ok (.invokevirtual 280, 3) := by decide +kernel
theorem dX5_withGlasses_46 : decode cX5_withGlasses 46 = .ok (.invokestatic 246, 3) := by decide +kernel
theorem dX5_withGlasses_49 : decode cX5_withGlasses 49 = .ok (.lstore_n 3, 1) := by decide +kernel
theorem dX5_withGlasses_50 : decode cX5_withGlasses 50 = .ok (.iinc 6 1, 3) := by decide +kernel
theorem dX5_withGlasses_53 : decode cX5_withGlasses 53 = .ok (.goto (-22), 3) := by decide +kernel
theorem dX5_withGlasses_56 : decode cX5_withGlasses 56 = .ok (.lload_n 3, 1) := by decide +kernel
theorem dX5_withGlasses_57 : decode cX5_withGlasses 57 = .ok (.aload_n 0, 1) := by decide +kernel
theorem dX5_withGlasses_58 : decode cX5_withGlasses 58 = .ok (.iload 5, 2) := by decide +kernel
theorem dX5_withGlasses_60 : decode cX5_withGlasses 60 = .ok (.invokevirtual 283, 3) := by decide +kernel
theorem dX5_withGlasses_63 : decode cX5_withGlasses 63 = .ok (.invokestatic 246, 3) := by decide +kernel
theorem dX5_withGlasses_66 : decode cX5_withGlasses 66 = .ok (.lstore_n 3, 1) := by decide +kernel
theorem dX5_withGlasses_67 : decode cX5_withGlasses 67 = .ok (.lload_n 3, 1) := by decide +kernel
theorem dX5_withGlasses_68 : decode cX5_withGlasses 68 = .ok (.aload_n 0, 1) := by decide +kernel
theorem dX5_withGlasses_69 : decode cX5_withGlasses 69 = .ok (.iload 5, 2) := by decide +kernel
theorem dX5_withGlasses_71 : decode cX5_withGlasses 71 = .ok (.invokevirtual 286, 3) := by decide +kernel
theorem dX5_withGlasses_74 : decode cX5_withGlasses 74 = .ok (.invokestatic 246, 3) := by decide +kernel
theorem dX5_withGlasses_77 : decode cX5_withGlasses 77 = .ok (.lstore_n 3, 1) := by decide +kernel
theorem dX5_withGlasses_78 : decode cX5_withGlasses 78 = .ok (.lload_n 3, 1) := by decide +kernel
theorem dX5_withGlasses_79 : decode cX5_withGlasses 79 = .ok (.aload_n 0, 1) := by decide +kernel
theorem dX5_withGlasses_80 : decode cX5_withGlasses 80 = .ok (.iload 5, 2) := by decide +kernel
theorem dX5_withGlasses_82 : decode cX5_withGlasses 82 = .ok (.invokevirtual 289, 3) := by decide +kernel
theorem dX5_withGlasses_85 : decode cX5_withGlasses 85 = .ok (.invokestatic 246, 3) := by decide +kernel
theorem dX5_withGlasses_88 : decode cX5_withGlasses 88 = .ok (.lstore_n 3, 1) := by decide +kernel
theorem dX5_withGlasses_89 : decode cX5_withGlasses 89 = .ok (.lload_n 3, 1) := by decide +kernel
theorem dX5_withGlasses_90 : decode cX5_withGlasses 90 = .ok (.aload_n 0, 1) := by decide +kernel
theorem dX5_withGlasses_91 : decode cX5_withGlasses 91 = .ok (.iload 5, 2) := by decide +kernel
theorem dX5_withGlasses_93 : decode cX5_withGlasses 93 = .ok (.invokevirtual 292, 3) := by decide +kernel
theorem dX5_withGlasses_96 : decode cX5_withGlasses 96 = .ok (.invokestatic 246, 3) := by decide +kernel
theorem dX5_withGlasses_99 : decode cX5_withGlasses 99 = .ok (.lstore_n 3, 1) := by decide +kernel
theorem dX5_withGlasses_100 : decode cX5_withGlasses 100 = .ok (.iinc 5 1, 3) := by decide +kernel
theorem dX5_withGlasses_103 : decode cX5_withGlasses 103 = .ok (.goto (-87), 3) := by decide +kernel
theorem dX5_withGlasses_106 : decode cX5_withGlasses 106 = .ok (.lload_n 3, 1) := by decide +kernel
theorem dX5_withGlasses_107 : decode cX5_withGlasses 107 = .ok (.lreturn, 1) := by decide +kernel
set_option maxRecDepth 20000 in
theorem ggX5_withDesigns_X5_doubletCount : GoodIn wsX5_withDesigns wsX5_doubletCount := goodIn_r _ [5, 6, 7, 8, 9, 10, 11, 12, 13, 14, 15, 16, 17, 18, 19, 20, 21, 22, 23, 24, 25, 26, 27, 28, 29, 30, 31, 32, 33, 34, 35, 36, 37, 38, 39, 40, 41, 42, 43, 44, 45, 46, 47, 48, 49, 50, 51, 52, 112, 113, 114, 115, 116, 117, 118, 119, 120, 121, 122, 123, 124, 125, 126, 127] (by decide +kernel) (by decide +kernel)
set_option maxRecDepth 20000 in
theorem gX5_withDesigns_X5_doubletCount : GoodIn wsX5_withDesigns (wsV RX5 295 RX5 yX5_doubletCount wsX5_doubletCount) := goodIn_app (goodIn_of _ (by decide +kernel)) ggX5_withDesigns_X5_doubletCount
set_option maxRecDepth 20000 in
theorem ggX5_withDesigns_X5_mixed : GoodIn wsX5_withDesigns wsX5_mixed := goodIn_r _ [55, 56] (by decide +kernel) (by decide +kernel)
set_option maxRecDepth 20000 in
theorem gX5_withDesigns_X5_mixed : GoodIn wsX5_withDesigns (va_wsS RX5 246 yX5_mixed wsX5_mixed) := goodIn_app (goodIn_of _ (by decide +kernel)) ggX5_withDesigns_X5_mixed
set_option maxRecDepth 20000 in
theorem ggX5_withDesigns_X5_doubletAt : GoodIn wsX5_withDesigns wsX5_doubletAt := goodIn_r _ [60, 6, 7, 61, 8, 9, 10, 11, 12, 13, 14, 15, 16, 17, 18, 19, 20, 21, 22, 23, 24, 25, 26, 27, 28, 29, 30, 31, 32, 33, 34, 35, 36, 37, 38, 39, 40, 41, 42, 43, 44, 45, 46, 47, 48, 49, 50, 51, 52, 62, 63, 64, 65, 66, 67, 68, 69, 70, 71, 72, 73, 74, 75, 76, 77, 78, 79, 80, 81, 82, 112, 113, 114, 115, 116, 117, 118, 119, 120, 121, 122, 123, 124, 125, 126, 127] (by decide +kernel) (by decide +kernel)
set_option maxRecDepth 20000 in
theorem gX5_withDesigns_X5_doubletAt : GoodIn wsX5_withDesigns (wsV RX5 298 RX5 yX5_doubletAt wsX5_doubletAt) := goodIn_app (goodIn_of _ (by decide +kernel)) ggX5_withDesigns_X5_doubletAt
set_option maxRecDepth 20000 in
theorem ggX5_withDesigns_X5_bestTriplet : GoodIn wsX5_withDesigns wsX5_bestTriplet := goodIn_r _ [86, 61, 7, 87, 88, 89, 4, 90, 91, 92, 93, 40, 94, 95, 96, 97, 17, 98, 19, 20, 21, 22, 23, 24, 99, 44, 45, 46, 25, 26, 27, 28, 29, 30, 47, 48, 49, 50, 100, 101, 102, 103, 104, 39, 41, 105, 106, 107, 108, 109, 110, 111, 112, 113, 114, 115, 116, 123, 124, 125, 126, 127] (by decide +kernel) (by decide +kernel)
set_option maxRecDepth 20000 in
theorem gX5_withDesigns_X5_bestTriplet : GoodIn wsX5_withDesigns (wsV RX5 302 RX5 yX5_bestTriplet wsX5_bestTriplet) := goodIn_app (goodIn_of _ (by decide +kernel)) ggX5_withDesigns_X5_bestTriplet
theorem dX5_withDesigns_0 : decode cX5_withDesigns 0 = .ok (.lload_n 1, 1) := by decide +kernel
theorem dX5_withDesigns_1 : decode cX5_withDesigns 1 = .ok (.aload_n 0, 1) := by decide +kernel
theorem dX5_withDesigns_2 : decode cX5_withDesigns 2 = .ok (.invokevirtual 295, 3) := by decide +kernel
theorem dX5_withDesigns_5 : decode cX5_withDesigns 5 = .ok (.invokestatic 246, 3) := by decide +kernel
theorem dX5_withDesigns_8 : decode cX5_withDesigns 8 = .ok (.lstore_n 3, 1) := by decide +kernel
theorem dX5_withDesigns_9 : decode cX5_withDesigns 9 = .ok (.iconst 0, 1) := by decide +kernel
theorem dX5_withDesigns_10 : decode cX5_withDesigns 10 = .ok (.istore 5, 2) := by decide +kernel
theorem dX5_withDesigns_12 : decode cX5_withDesigns 12 = .ok (.iload 5, 2) := by decide +kernel
theorem dX5_withDesigns_14 : decode cX5_withDesigns 14 = .ok (.iconst 4, 1) := by decide +kernel
theorem dX5_withDesigns_15 : decode cX5_withDesigns 15 = .ok (.if_icmp .ge 33, 3) := by decide +kernel
theorem dX5_withDesigns_18 : decode cX5_withDesigns 18 = .ok (.lload_n 3, 1) := by decide +kernel
theorem dX5_withDesigns_19 : decode cX5_withDesigns 19 = .ok (.aload_n 0, 1) := by decide +kernel
theorem dX5_withDesigns_20 : decode cX5_withDesigns 20 = .ok (.iconst 0, 1) := by decide +kernel
theorem dX5_withDesigns_21 : decode cX5_withDesigns 21 = .ok (.iload 5, 2) := by decide +kernel
theorem dX5_withDesigns_23 : decode cX5_withDesigns 23 = .ok (.invokevirtual 298, 3) := by decide +kernel
theorem dX5_withDesigns_26 : decode cX5_withDesigns 26 = .ok (.invokestatic 246, 3) := by decide +kernel
theorem dX5_withDesigns_29 : decode cX5_withDesigns 29 = .ok (.lstore_n 3, 1) := by decide +kernel
theorem dX5_withDesigns_30 : decode cX5_withDesigns 30 = .ok (.lload_n 3, 1) := by decide +kernel
theorem dX5_withDesigns_31 : decode cX5_withDesigns 31 = .ok (.aload_n 0, 1) := by decide +kernel
theorem dX5_withDesigns_32 : decode cX5_withDesigns 32 = .ok (.iconst 1, 1) := by decide +kernel
theorem dX5_withDesigns_33 : decode cX5_withDesigns 33 = .ok (.iload 5, 2) := by decide +kernel
theorem dX5_withDesigns_35 : decode cX5_withDesigns 35 = .ok (.invokevirtual 298, 3) := by decide +kernel
theorem dX5_withDesigns_38 : decode cX5_withDesigns 38 = .ok (.invokestatic 246, 3) := by decide +kernel
theorem dX5_withDesigns_41 : decode cX5_withDesigns 41 = .ok (.lstore_n 3, 1) := by decide +kernel
theorem dX5_withDesigns_42 : decode cX5_withDesigns 42 = .ok (.iinc 5 1, 3) := by decide +kernel
theorem dX5_withDesigns_45 : decode cX5_withDesigns 45 = .ok (.goto (-33), 3) := by decide +kernel
theorem dX5_withDesigns_48 : decode cX5_withDesigns 48 = .ok (.lload_n 3, 1) := by decide +kernel
theorem dX5_withDesigns_49 : decode cX5_withDesigns 49 = .ok (.aload_n 0, 1) := by decide +kernel
theorem dX5_withDesigns_50 : decode cX5_withDesigns 50 = .ok (.invokevirtual 302, 3) := by decide +kernel
theorem dX5_withDesigns_53 : decode cX5_withDesigns 53 = .ok (.invokestatic 246, 3) := by decide +kernel
theorem dX5_withDesigns_56 : decode cX5_withDesigns 56 = .ok (.lreturn, 1) := by decide +kernel
set_option maxRecDepth 20000 in
theorem ggX5_withLenses_X5_mixed : GoodIn wsX5_withLenses wsX5_mixed := goodIn_r _ [5, 6] (by decide +kernel) (by decide +kernel)
set_option maxRecDepth 20000 in
theorem gX5_withLenses_X5_mixed : GoodIn wsX5_withLenses (va_wsS RX5 246 yX5_mixed wsX5_mixed) := goodIn_app (goodIn_of _ (by decide +kernel)) ggX5_withLenses_X5_mixed
set_option maxRecDepth 20000 in
theorem ggX5_withLenses_X3_glassOf : GoodIn wsX5_withLenses wsX3_glassOf := goodIn_r _ [11, 12, 91, 92, 93] (by decide +kernel) (by decide +kernel)
set_option maxRecDepth 20000 in
theorem gX5_withLenses_X3_glassOf : GoodIn wsX5_withLenses (wsV RX5 197 RX3 yX3_glassOf wsX3_glassOf) := goodIn_app (goodIn_of _ (by decide +kernel)) ggX5_withLenses_X3_glassOf
set_option maxRecDepth 20000 in
theorem ggX5_withLenses_X3_powerOf : GoodIn wsX5_withLenses wsX3_powerOf := goodIn_r _ [16, 17, 91, 92, 93] (by decide +kernel) (by decide +kernel)
set_option maxRecDepth 20000 in
theorem gX5_withLenses_X3_powerOf : GoodIn wsX5_withLenses (wsV RX5 209 RX3 yX3_powerOf wsX3_powerOf) := goodIn_app (goodIn_of _ (by decide +kernel)) ggX5_withLenses_X3_powerOf
set_option maxRecDepth 20000 in
theorem ggX5_withLenses_X5_bestSurfaces : GoodIn wsX5_withLenses wsX5_bestSurfaces := goodIn_r _ [21, 1, 22, 23, 24, 25, 26, 27, 28, 29, 30, 31, 32, 33, 10, 34, 35, 7, 8, 9, 11, 12, 36, 37, 38, 39, 40, 41, 42, 13, 14, 15, 16, 17, 43, 44, 45, 4, 46, 47, 48, 49, 50, 51, 52, 53, 54, 55, 56, 57, 58, 59, 60, 86, 87, 88, 89, 90, 94, 95, 91, 92, 93, 96, 97, 98, 99, 100] (by decide +kernel) (by decide +kernel)
set_option maxRecDepth 20000 in
theorem gX5_withLenses_X5_bestSurfaces : GoodIn wsX5_withLenses (wsV RX5 305 RX5 yX5_bestSurfaces wsX5_bestSurfaces) := goodIn_app (goodIn_of _ (by decide +kernel)) ggX5_withLenses_X5_bestSurfaces
set_option maxRecDepth 20000 in
theorem ggX5_withLenses_X5_systemPower : GoodIn wsX5_withLenses wsX5_systemPower := goodIn_r _ [64, 1, 23, 65, 66, 67, 4, 68, 69, 70, 71, 10, 72, 35, 12, 73, 74, 75, 76, 77, 17, 78, 79, 80, 81, 39, 82, 83, 41, 84, 85, 37, 38, 40, 42, 55, 56, 57, 58, 59, 60, 86, 87, 88, 89, 90, 91, 92, 93, 96, 97, 98, 99, 100] (by decide +kernel) (by decide +kernel)
set_option maxRecDepth 20000 in
theorem gX5_withLenses_X5_systemPower : GoodIn wsX5_withLenses (wsV RX5 239 RX5 yX5_systemPower wsX5_systemPower) := goodIn_app (goodIn_of _ (by decide +kernel)) ggX5_withLenses_X5_systemPower
theorem dX5_withLenses_0 : decode cX5_withLenses 0 = .ok (.lload_n 1, 1) := by decide +kernel
theorem dX5_withLenses_1 : decode cX5_withLenses 1 = .ok (.aload_n 0, 1) := by decide +kernel
theorem dX5_withLenses_2 : decode cX5_withLenses 2 = .ok (.getfield 33, 3) := by decide +kernel
theorem dX5_withLenses_5 : decode cX5_withLenses 5 = .ok (.getfield 178, 3) := by decide +kernel
theorem dX5_withLenses_8 : decode cX5_withLenses 8 = .ok (.i2l, 1) := by decide +kernel
theorem dX5_withLenses_9 : decode cX5_withLenses 9 = .ok (.invokestatic 246, 3) := by decide +kernel
theorem dX5_withLenses_12 : decode cX5_withLenses 12 = .ok (.lstore_n 3, 1) := by decide +kernel
theorem dX5_withLenses_13 : decode cX5_withLenses 13 = .ok (.iconst 0, 1) := by decide +kernel
theorem dX5_withLenses_14 : decode cX5_withLenses 14 = .ok (.istore 5, 2) := by decide +kernel
theorem dX5_withLenses_16 : decode cX5_withLenses 16 = .ok (.iload 5, 2) := by decide +kernel
theorem dX5_withLenses_18 : decode cX5_withLenses 18 = .ok (.aload_n 0, 1) := by decide +kernel
theorem dX5_withLenses_19 : decode cX5_withLenses 19 = .ok (.getfield 33, 3) := by decide +kernel
theorem dX5_withLenses_22 : decode cX5_withLenses 22 = .ok (.getfield 178, 3) := by decide +kernel
theorem dX5_withLenses_25 : decode cX5_withLenses 25 = .ok (.if_icmp .ge 50, 3) := by decide +kernel
theorem dX5_withLenses_28 : decode cX5_withLenses 28 = .ok (.lload_n 3, 1) := by decide +kernel
theorem dX5_withLenses_29 : decode cX5_withLenses 29 = .ok (.aload_n 0, 1) := by decide +kernel
theorem dX5_withLenses_30 : decode cX5_withLenses 30 = .ok (.getfield 33, 3) := by decide +kernel
theorem dX5_withLenses_33 : decode cX5_withLenses 33 = .ok (.iload 5, 2) := by decide +kernel
theorem dX5_withLenses_35 : decode cX5_withLenses 35 = .ok (.invokevirtual 197, 3) := by decide +kernel
theorem dX5_withLenses_38 : decode cX5_withLenses 38 = .ok (.i2l, 1) := by decide +kernel
theorem dX5_withLenses_39 : decode cX5_withLenses 39 = .ok (.invokestatic 246, 3) := by decide +kernel
theorem dX5_withLenses_42 : decode cX5_withLenses 42 = .ok (.lstore_n 3, 1) := by decide +kernel
theorem dX5_withLenses_43 : decode cX5_withLenses 43 = .ok (.lload_n 3, 1) := by decide +kernel
theorem dX5_withLenses_44 : decode cX5_withLenses 44 = .ok (.aload_n 0, 1) := by decide +kernel
theorem dX5_withLenses_45 : decode cX5_withLenses 45 = .ok (.getfield 33, 3) := by decide +kernel
theorem dX5_withLenses_48 : decode cX5_withLenses 48 = .ok (.iload 5, 2) := by decide +kernel
theorem dX5_withLenses_50 : decode cX5_withLenses 50 = .ok (.invokevirtual 209, 3) := by decide +kernel
theorem dX5_withLenses_53 : decode cX5_withLenses 53 = .ok (.i2l, 1) := by decide +kernel
theorem dX5_withLenses_54 : decode cX5_withLenses 54 = .ok (.invokestatic 246, 3) := by decide +kernel
theorem dX5_withLenses_57 : decode cX5_withLenses 57 = .ok (.lstore_n 3, 1) := by decide +kernel
theorem dX5_withLenses_58 : decode cX5_withLenses 58 = .ok (.lload_n 3, 1) := by decide +kernel
theorem dX5_withLenses_59 : decode cX5_withLenses 59 = .ok (.aload_n 0, 1) := by decide +kernel
theorem dX5_withLenses_60 : decode cX5_withLenses 60 = .ok (.iload 5, 2) := by decide +kernel
theorem dX5_withLenses_62 : decode cX5_withLenses 62 = .ok (.invokevirtual 305, 3) := by decide +kernel
theorem dX5_withLenses_65 : decode cX5_withLenses 65 = .ok (.invokestatic 246, 3) := by decide +kernel
theorem dX5_withLenses_68 : decode cX5_withLenses 68 = .ok (.lstore_n 3, 1) := by decide +kernel
theorem dX5_withLenses_69 : decode cX5_withLenses 69 = .ok (.iinc 5 1, 3) := by decide +kernel
theorem dX5_withLenses_72 : decode cX5_withLenses 72 = .ok (.goto (-56), 3) := by decide +kernel
theorem dX5_withLenses_75 : decode cX5_withLenses 75 = .ok (.iconst 0, 1) := by decide +kernel
theorem dX5_withLenses_76 : decode cX5_withLenses 76 = .ok (.istore 5, 2) := by decide +kernel
theorem dX5_withLenses_78 : decode cX5_withLenses 78 = .ok (.iload 5, 2) := by decide +kernel
theorem dX5_withLenses_80 : decode cX5_withLenses 80 = .ok (.iconst 2, 1) := by decide +kernel
theorem dX5_withLenses_81 : decode cX5_withLenses 81 = .ok (.if_icmp .gt 20, 3) := by decide +kernel
theorem dX5_withLenses_84 : decode cX5_withLenses 84 = .ok (.lload_n 3, 1) := by decide +kernel
theorem dX5_withLenses_85 : decode cX5_withLenses 85 = .ok (.aload_n 0, 1) := by decide +kernel
theorem dX5_withLenses_86 : decode cX5_withLenses 86 = .ok (.iload 5, 2) := by decide +kernel
theorem dX5_withLenses_88 : decode cX5_withLenses 88 = .ok (.invokevirtual 239, 3) := by decide +kernel
theorem dX5_withLenses_91 : decode cX5_withLenses 91 = .ok (.invokestatic 246, 3) := by decide +kernel
theorem dX5_withLenses_94 : decode cX5_withLenses 94 = .ok (.lstore_n 3, 1) := by decide +kernel
theorem dX5_withLenses_95 : decode cX5_withLenses 95 = .ok (.iinc 5 1, 3) := by decide +kernel
theorem dX5_withLenses_98 : decode cX5_withLenses 98 = .ok (.goto (-20), 3) := by decide +kernel
theorem dX5_withLenses_101 : decode cX5_withLenses 101 = .ok (.lload_n 3, 1) := by decide +kernel
theorem dX5_withLenses_102 : decode cX5_withLenses 102 = .ok (.lreturn, 1) := by decide +kernel
set_option maxRecDepth 20000 in
theorem ggX5_withPlates_X5_mixed : GoodIn wsX5_withPlates wsX5_mixed := goodIn_r _ [5, 6] (by decide +kernel) (by decide +kernel)
set_option maxRecDepth 20000 in
theorem gX5_withPlates_X5_mixed : GoodIn wsX5_withPlates (va_wsS RX5 246 yX5_mixed wsX5_mixed) := goodIn_app (goodIn_of _ (by decide +kernel)) ggX5_withPlates_X5_mixed
set_option maxRecDepth 20000 in
theorem ggX5_withPlates_X4_signedRadius : GoodIn wsX5_withPlates wsX4_signedRadius := goodIn_r _ [11, 12, 18, 19] (by decide +kernel) (by decide +kernel)
set_option maxRecDepth 20000 in
theorem gX5_withPlates_X4_signedRadius : GoodIn wsX5_withPlates (wsV RX5 273 RX4 yX4_signedRadius wsX4_signedRadius) := goodIn_app (goodIn_of _ (by decide +kernel)) ggX5_withPlates_X4_signedRadius
theorem dX5_withPlates_0 : decode cX5_withPlates 0 = .ok (.lload_n 1, 1) := by decide +kernel
theorem dX5_withPlates_1 : decode cX5_withPlates 1 = .ok (.aload_n 0, 1) := by decide +kernel
theorem dX5_withPlates_2 : decode cX5_withPlates 2 = .ok (.getfield 40, 3) := by decide +kernel
theorem dX5_withPlates_5 : decode cX5_withPlates 5 = .ok (.getfield 204, 3) := by decide +kernel
theorem dX5_withPlates_8 : decode cX5_withPlates 8 = .ok (.i2l, 1) := by decide +kernel
theorem dX5_withPlates_9 : decode cX5_withPlates 9 = .ok (.invokestatic 246, 3) := by decide +kernel
theorem dX5_withPlates_12 : decode cX5_withPlates 12 = .ok (.lstore_n 3, 1) := by decide +kernel
theorem dX5_withPlates_13 : decode cX5_withPlates 13 = .ok (.iconst 0, 1) := by decide +kernel
theorem dX5_withPlates_14 : decode cX5_withPlates 14 = .ok (.istore 5, 2) := by decide +kernel
theorem dX5_withPlates_16 : decode cX5_withPlates 16 = .ok (.iload 5, 2) := by decide +kernel
theorem dX5_withPlates_18 : decode cX5_withPlates 18 = .ok (.aload_n 0, 1) := by decide +kernel
theorem dX5_withPlates_19 : decode cX5_withPlates 19 = .ok (.getfield 40, 3) := by decide +kernel
theorem dX5_withPlates_22 : decode cX5_withPlates 22 = .ok (.getfield 204, 3) := by decide +kernel
theorem dX5_withPlates_25 : decode cX5_withPlates 25 = .ok (.if_icmp .ge 25, 3) := by decide +kernel
theorem dX5_withPlates_28 : decode cX5_withPlates 28 = .ok (.lload_n 3, 1) := by decide +kernel
theorem dX5_withPlates_29 : decode cX5_withPlates 29 = .ok (.aload_n 0, 1) := by decide +kernel
theorem dX5_withPlates_30 : decode cX5_withPlates 30 = .ok (.getfield 40, 3) := by decide +kernel
theorem dX5_withPlates_33 : decode cX5_withPlates 33 = .ok (.iconst 2, 1) := by decide +kernel
theorem dX5_withPlates_34 : decode cX5_withPlates 34 = .ok (.iload 5, 2) := by decide +kernel
theorem dX5_withPlates_36 : decode cX5_withPlates 36 = .ok (.imul, 1) := by decide +kernel
theorem dX5_withPlates_37 : decode cX5_withPlates 37 = .ok (.invokevirtual 273, 3) := by decide +kernel
theorem dX5_withPlates_40 : decode cX5_withPlates 40 = .ok (.invokestatic 246, 3) := by decide +kernel
theorem dX5_withPlates_43 : decode cX5_withPlates 43 = .ok (.lstore_n 3, 1) := by decide +kernel
theorem dX5_withPlates_44 : decode cX5_withPlates 44 = .ok (.iinc 5 1, 3) := by decide +kernel
theorem dX5_withPlates_47 : decode cX5_withPlates 47 = .ok (.goto (-31), 3) := by decide +kernel
theorem dX5_withPlates_50 : decode cX5_withPlates 50 = .ok (.lload_n 3, 1) := by decide +kernel
theorem dX5_withPlates_51 : decode cX5_withPlates 51 = .ok (.lreturn, 1) := by decide +kernel
set_option maxRecDepth 20000 in
theorem ggX5_withBuffer_X5_mixed : GoodIn wsX5_withBuffer wsX5_mixed := goodIn_r _ [5, 6] (by decide +kernel) (by decide +kernel)
set_option maxRecDepth 20000 in
theorem gX5_withBuffer_X5_mixed : GoodIn wsX5_withBuffer (va_wsS RX5 246 yX5_mixed wsX5_mixed) := goodIn_app (goodIn_of _ (by decide +kernel)) ggX5_withBuffer_X5_mixed
set_option maxRecDepth 20000 in
theorem ggX5_withBuffer_X2_codeAt : GoodIn wsX5_withBuffer wsX2_codeAt := goodIn_r _ [11, 12, 13, 19, 20] (by decide +kernel) (by decide +kernel)
set_option maxRecDepth 20000 in
theorem gX5_withBuffer_X2_codeAt : GoodIn wsX5_withBuffer (wsV RX5 308 RX2 yX2_codeAt wsX2_codeAt) := goodIn_app (goodIn_of _ (by decide +kernel)) ggX5_withBuffer_X2_codeAt
theorem dX5_withBuffer_0 : decode cX5_withBuffer 0 = .ok (.lload_n 1, 1) := by decide +kernel
theorem dX5_withBuffer_1 : decode cX5_withBuffer 1 = .ok (.aload_n 0, 1) := by decide +kernel
theorem dX5_withBuffer_2 : decode cX5_withBuffer 2 = .ok (.getfield 12, 3) := by decide +kernel
theorem dX5_withBuffer_5 : decode cX5_withBuffer 5 = .ok (.getfield 46, 3) := by decide +kernel
theorem dX5_withBuffer_8 : decode cX5_withBuffer 8 = .ok (.i2l, 1) := by decide +kernel
theorem dX5_withBuffer_9 : decode cX5_withBuffer 9 = .ok (.invokestatic 246, 3) := by decide +kernel
theorem dX5_withBuffer_12 : decode cX5_withBuffer 12 = .ok (.lstore_n 3, 1) := by decide +kernel
theorem dX5_withBuffer_13 : decode cX5_withBuffer 13 = .ok (.iconst 0, 1) := by decide +kernel
theorem dX5_withBuffer_14 : decode cX5_withBuffer 14 = .ok (.istore 5, 2) := by decide +kernel
theorem dX5_withBuffer_16 : decode cX5_withBuffer 16 = .ok (.iload 5, 2) := by decide +kernel
theorem dX5_withBuffer_18 : decode cX5_withBuffer 18 = .ok (.aload_n 0, 1) := by decide +kernel
theorem dX5_withBuffer_19 : decode cX5_withBuffer 19 = .ok (.getfield 12, 3) := by decide +kernel
theorem dX5_withBuffer_22 : decode cX5_withBuffer 22 = .ok (.getfield 46, 3) := by decide +kernel
theorem dX5_withBuffer_25 : decode cX5_withBuffer 25 = .ok (.if_icmp .ge 24, 3) := by decide +kernel
theorem dX5_withBuffer_28 : decode cX5_withBuffer 28 = .ok (.lload_n 3, 1) := by decide +kernel
theorem dX5_withBuffer_29 : decode cX5_withBuffer 29 = .ok (.aload_n 0, 1) := by decide +kernel
theorem dX5_withBuffer_30 : decode cX5_withBuffer 30 = .ok (.getfield 12, 3) := by decide +kernel
theorem dX5_withBuffer_33 : decode cX5_withBuffer 33 = .ok (.iload 5, 2) := by decide +kernel
theorem dX5_withBuffer_35 : decode cX5_withBuffer 35 = .ok (.invokevirtual 308, 3) := by decide +kernel
theorem dX5_withBuffer_38 : decode cX5_withBuffer 38 = .ok (.i2l, 1) := by decide +kernel
theorem dX5_withBuffer_39 : decode cX5_withBuffer 39 = .ok (.invokestatic 246, 3) := by decide +kernel
theorem dX5_withBuffer_42 : decode cX5_withBuffer 42 = .ok (.lstore_n 3, 1) := by decide +kernel
theorem dX5_withBuffer_43 : decode cX5_withBuffer 43 = .ok (.iinc 5 1, 3) := by decide +kernel
theorem dX5_withBuffer_46 : decode cX5_withBuffer 46 = .ok (.goto (-30), 3) := by decide +kernel
theorem dX5_withBuffer_49 : decode cX5_withBuffer 49 = .ok (.lload_n 3, 1) := by decide +kernel
theorem dX5_withBuffer_50 : decode cX5_withBuffer 50 = .ok (.lreturn, 1) := by decide +kernel
theorem dX6_init_0 : decode cX6_init 0 = .ok (.aload_n 0, 1) := by decide +kernel
theorem dX6_init_1 : decode cX6_init 1 = .ok (.invokespecial 1, 3) := by decide +kernel
theorem dX6_init_4 : decode cX6_init 4 = .ok (.aload_n 0, 1) := by decide +kernel
theorem dX6_init_5 : decode cX6_init 5 = .ok (.bipush 28, 2) := by decide +kernel
theorem dX6_init_7 : decode cX6_init 7 = .ok (.newarray .int, 2) := by decide +kernel
theorem dX6_init_9 : decode cX6_init 9 = .ok (.putfield 7, 3) := by decide +kernel
theorem dX6_init_12 : decode cX6_init 12 = .ok (.aload_n 0, 1) := by decide +kernel
theorem dX6_init_13 : decode cX6_init 13 = .ok (.bipush 20, 2) := by decide +kernel
theorem dX6_init_15 : decode cX6_init 15 = .ok (.newarray .long, 2) := by decide +kernel
theorem dX6_init_17 : decode cX6_init 17 = .ok (.putfield 13, 3) := by decide +kernel
theorem dX6_init_20 : decode cX6_init 20 = .ok (.aload_n 0, 1) := by decide +kernel
theorem dX6_init_21 : decode cX6_init 21 = .ok (.bipush 60, 2) := by decide +kernel
theorem dX6_init_23 : decode cX6_init 23 = .ok (.newarray .int, 2) := by decide +kernel
theorem dX6_init_25 : decode cX6_init 25 = .ok (.putfield 17, 3) := by decide +kernel
theorem dX6_init_28 : decode cX6_init 28 = .ok (.aload_n 0, 1) := by decide +kernel
theorem dX6_init_29 : decode cX6_init 29 = .ok (.bipush 8, 2) := by decide +kernel
theorem dX6_init_31 : decode cX6_init 31 = .ok (.newarray .int, 2) := by decide +kernel
theorem dX6_init_33 : decode cX6_init 33 = .ok (.putfield 20, 3) := by decide +kernel
theorem dX6_init_36 : decode cX6_init 36 = .ok (.aload_n 0, 1) := by decide +kernel
theorem dX6_init_37 : decode cX6_init 37 = .ok (.bipush 8, 2) := by decide +kernel
theorem dX6_init_39 : decode cX6_init 39 = .ok (.newarray .int, 2) := by decide +kernel
theorem dX6_init_41 : decode cX6_init 41 = .ok (.putfield 23, 3) := by decide +kernel
theorem dX6_init_44 : decode cX6_init 44 = .ok (.aload_n 0, 1) := by decide +kernel
theorem dX6_init_45 : decode cX6_init 45 = .ok (.bipush 16, 2) := by decide +kernel
theorem dX6_init_47 : decode cX6_init 47 = .ok (.newarray .int, 2) := by decide +kernel
theorem dX6_init_49 : decode cX6_init 49 = .ok (.putfield 26, 3) := by decide +kernel
theorem dX6_init_52 : decode cX6_init 52 = .ok (.aload_n 0, 1) := by decide +kernel
theorem dX6_init_53 : decode cX6_init 53 = .ok (.iconst 3, 1) := by decide +kernel
theorem dX6_init_54 : decode cX6_init 54 = .ok (.newarray .int, 2) := by decide +kernel
theorem dX6_init_56 : decode cX6_init 56 = .ok (.putfield 29, 3) := by decide +kernel
theorem dX6_init_59 : decode cX6_init 59 = .ok (.aload_n 0, 1) := by decide +kernel
theorem dX6_init_60 : decode cX6_init 60 = .ok (.iconst 3, 1) := by decide +kernel
theorem dX6_init_61 : decode cX6_init 61 = .ok (.newarray .long, 2) := by decide +kernel
theorem dX6_init_63 : decode cX6_init 63 = .ok (.putfield 32, 3) := by decide +kernel
theorem dX6_init_66 : decode cX6_init 66 = .ok (.return_, 1) := by decide +kernel
theorem dX6_within_0 : decode cX6_within 0 = .ok (.lload_n 0, 1) := by decide +kernel
theorem dX6_within_1 : decode cX6_within 1 = .ok (.lload_n 2, 1) := by decide +kernel
theorem dX6_within_2 : decode cX6_within 2 = .ok (.lcmp, 1) := by decide +kernel
theorem dX6_within_3 : decode cX6_within 3 = .ok (.ifCond .lt 14, 3) := by decide +kernel
theorem dX6_within_6 : decode cX6_within 6 = .ok (.lload_n 0, 1) := by decide +kernel
theorem dX6_within_7 : decode cX6_within 7 = .ok (.lload 4, 2) := by decide +kernel
theorem dX6_within_9 : decode cX6_within 9 = .ok (.lcmp, 1) := by decide +kernel
theorem dX6_within_10 : decode cX6_within 10 = .ok (.ifCond .gt 7, 3) := by decide +kernel
theorem dX6_within_13 : decode cX6_within 13 = .ok (.iconst 1, 1) := by decide +kernel
theorem dX6_within_14 : decode cX6_within 14 = .ok (.goto 4, 3) := by decide +kernel
theorem dX6_within_17 : decode cX6_within 17 = .ok (.iconst 0, 1) := by decide +kernel
theorem dX6_within_18 : decode cX6_within 18 = .ok (.ireturn, 1) := by decide +kernel
theorem dX6_floor_0 : decode cX6_floor 0 = .ok (.lload_n 0, 1) := by decide +kernel
theorem dX6_floor_1 : decode cX6_floor 1 = .ok (.lload_n 2, 1) := by decide +kernel
theorem dX6_floor_2 : decode cX6_floor 2 = .ok (.ldiv, 1) := by decide +kernel
theorem dX6_floor_3 : decode cX6_floor 3 = .ok (.lstore 4, 2) := by decide +kernel
theorem dX6_floor_5 : decode cX6_floor 5 = .ok (.lload_n 0, 1) := by decide +kernel
theorem dX6_floor_6 : decode cX6_floor 6 = .ok (.lload_n 2, 1) := by decide +kernel
theorem dX6_floor_7 : decode cX6_floor 7 = .ok (.lrem, 1) := by decide +kernel
theorem dX6_floor_8 : decode cX6_floor 8 = .ok (.lconst 0, 1) := by decide +kernel
theorem dX6_floor_9 : decode cX6_floor 9 = .ok (.lcmp, 1) := by decide +kernel
theorem dX6_floor_10 : decode cX6_floor 10 = .ok (.ifCond .eq 35, 3) := by decide +kernel
theorem dX6_floor_13 : decode cX6_floor 13 = .ok (.lload_n 0, 1) := by decide +kernel
theorem dX6_floor_14 : decode cX6_floor 14 = .ok (.lconst 0, 1) := by decide +kernel
theorem dX6_floor_15 : decode cX6_floor 15 = .ok (.lcmp, 1) := by decide +kernel
theorem dX6_floor_16 : decode cX6_floor 16 = .ok (.ifCond .ge 7, 3) := by decide +kernel
theorem dX6_floor_19 : decode cX6_floor 19 = .ok (.iconst 1, 1) := by decide +kernel
theorem dX6_floor_20 : decode cX6_floor 20 = .ok (.goto 4, 3) := by decide +kernel
theorem dX6_floor_23 : decode cX6_floor 23 = .ok (.iconst 0, 1) := by decide +kernel
theorem dX6_floor_24 : decode cX6_floor 24 = .ok (.lload_n 2, 1) := by decide +kernel
theorem dX6_floor_25 : decode cX6_floor 25 = .ok (.lconst 0, 1) := by decide +kernel
theorem dX6_floor_26 : decode cX6_floor 26 = .ok (.lcmp, 1) := by decide +kernel
theorem dX6_floor_27 : decode cX6_floor 27 = .ok (.ifCond .ge 7, 3) := by decide +kernel
theorem dX6_floor_30 : decode cX6_floor 30 = .ok (.iconst 1, 1) := by decide +kernel
theorem dX6_floor_31 : decode cX6_floor 31 = .ok (.goto 4, 3) := by decide +kernel
theorem dX6_floor_34 : decode cX6_floor 34 = .ok (.iconst 0, 1) := by decide +kernel
theorem dX6_floor_35 : decode cX6_floor 35 = .ok (.if_icmp .eq 10, 3) := by decide +kernel
theorem dX6_floor_38 : decode cX6_floor 38 = .ok (.lload 4, 2) := by decide +kernel
theorem dX6_floor_40 : decode cX6_floor 40 = .ok (.lconst 1, 1) := by decide +kernel
theorem dX6_floor_41 : decode cX6_floor 41 = .ok (.lsub, 1) := by decide +kernel
theorem dX6_floor_42 : decode cX6_floor 42 = .ok (.goto 5, 3) := by decide +kernel
theorem dX6_floor_45 : decode cX6_floor 45 = .ok (.lload 4, 2) := by decide +kernel
theorem dX6_floor_47 : decode cX6_floor 47 = .ok (.lreturn, 1) := by decide +kernel
theorem dX6_size_0 : decode cX6_size 0 = .ok (.lload_n 0, 1) := by decide +kernel
theorem dX6_size_1 : decode cX6_size 1 = .ok (.lconst 0, 1) := by decide +kernel
theorem dX6_size_2 : decode cX6_size 2 = .ok (.lcmp, 1) := by decide +kernel
theorem dX6_size_3 : decode cX6_size 3 = .ok (.ifCond .ge 8, 3) := by decide +kernel
theorem dX6_size_6 : decode cX6_size 6 = .ok (.lload_n 0, 1) := by decide +kernel
theorem dX6_size_7 : decode cX6_size 7 = .ok (.lneg, 1) := by decide +kernel
theorem dX6_size_8 : decode cX6_size 8 = .ok (.goto 4, 3) := by decide +kernel
theorem dX6_size_11 : decode cX6_size 11 = .ok (.lload_n 0, 1) := by decide +kernel
theorem dX6_size_12 : decode cX6_size 12 = .ok (.lreturn, 1) := by decide +kernel
set_option maxRecDepth 20000 in
theorem ggX6_isGlass_X6_within : GoodIn wsX6_isGlass wsX6_within := goodIn_r _ [5] (by decide +kernel) (by decide +kernel)
set_option maxRecDepth 20000 in
theorem gX6_isGlass_X6_within : GoodIn wsX6_isGlass (va_wsS RX6 39 yX6_within wsX6_within) := goodIn_app (goodIn_of _ (by decide +kernel)) ggX6_isGlass_X6_within
theorem dX6_isGlass_0 : decode cX6_isGlass 0 = .ok (.iload_n 1, 1) := by decide +kernel
theorem dX6_isGlass_1 : decode cX6_isGlass 1 = .ok (.i2l, 1) := by decide +kernel
theorem dX6_isGlass_2 : decode cX6_isGlass 2 = .ok (.lconst 0, 1) := by decide +kernel
theorem dX6_isGlass_3 : decode cX6_isGlass 3 = .ok (.aload_n 0, 1) := by decide +kernel
theorem dX6_isGlass_4 : decode cX6_isGlass 4 = .ok (.getfield 35, 3) := by decide +kernel
theorem dX6_isGlass_7 : decode cX6_isGlass 7 = .ok (.iconst 1, 1) := by decide +kernel
theorem dX6_isGlass_8 : decode cX6_isGlass 8 = .ok (.isub, 1) := by decide +kernel
theorem dX6_isGlass_9 : decode cX6_isGlass 9 = .ok (.i2l, 1) := by decide +kernel
theorem dX6_isGlass_10 : decode cX6_isGlass 10 = .ok (.invokestatic 39, 3) := by decide +kernel
theorem dX6_isGlass_13 : decode cX6_isGlass 13 = .ok (.ireturn, 1) := by decide +kernel
set_option maxRecDepth 20000 in
theorem ggX6_isLens_X6_within : GoodIn wsX6_isLens wsX6_within := goodIn_r _ [5] (by decide +kernel) (by decide +kernel)
set_option maxRecDepth 20000 in
theorem gX6_isLens_X6_within : GoodIn wsX6_isLens (va_wsS RX6 39 yX6_within wsX6_within) := goodIn_app (goodIn_of _ (by decide +kernel)) ggX6_isLens_X6_within
theorem dX6_isLens_0 : decode cX6_isLens 0 = .ok (.iload_n 1, 1) := by decide +kernel
theorem dX6_isLens_1 : decode cX6_isLens 1 = .ok (.i2l, 1) := by decide +kernel
theorem dX6_isLens_2 : decode cX6_isLens 2 = .ok (.lconst 0, 1) := by decide +kernel
theorem dX6_isLens_3 : decode cX6_isLens 3 = .ok (.aload_n 0, 1) := by decide +kernel
theorem dX6_isLens_4 : decode cX6_isLens 4 = .ok (.getfield 43, 3) := by decide +kernel
theorem dX6_isLens_7 : decode cX6_isLens 7 = .ok (.iconst 1, 1) := by decide +kernel
theorem dX6_isLens_8 : decode cX6_isLens 8 = .ok (.isub, 1) := by decide +kernel
theorem dX6_isLens_9 : decode cX6_isLens 9 = .ok (.i2l, 1) := by decide +kernel
theorem dX6_isLens_10 : decode cX6_isLens 10 = .ok (.invokestatic 39, 3) := by decide +kernel
theorem dX6_isLens_13 : decode cX6_isLens 13 = .ok (.ireturn, 1) := by decide +kernel
set_option maxRecDepth 20000 in
theorem ggX6_isColour_X6_within : GoodIn wsX6_isColour wsX6_within := goodIn_r _ [5] (by decide +kernel) (by decide +kernel)
set_option maxRecDepth 20000 in
theorem gX6_isColour_X6_within : GoodIn wsX6_isColour (va_wsS RX6 39 yX6_within wsX6_within) := goodIn_app (goodIn_of _ (by decide +kernel)) ggX6_isColour_X6_within
theorem dX6_isColour_0 : decode cX6_isColour 0 = .ok (.iload_n 0, 1) := by decide +kernel
theorem dX6_isColour_1 : decode cX6_isColour 1 = .ok (.i2l, 1) := by decide +kernel
theorem dX6_isColour_2 : decode cX6_isColour 2 = .ok (.lconst 0, 1) := by decide +kernel
theorem dX6_isColour_3 : decode cX6_isColour 3 = .ok (.ldc2_w 46, 3) := by decide +kernel
theorem dX6_isColour_6 : decode cX6_isColour 6 = .ok (.invokestatic 39, 3) := by decide +kernel
theorem dX6_isColour_9 : decode cX6_isColour 9 = .ok (.ireturn, 1) := by decide +kernel
theorem dX6_a_0 : decode cX6_a 0 = .ok (.aload_n 0, 1) := by decide +kernel
theorem dX6_a_1 : decode cX6_a 1 = .ok (.getfield 17, 3) := by decide +kernel
theorem dX6_a_4 : decode cX6_a 4 = .ok (.iconst 3, 1) := by decide +kernel
theorem dX6_a_5 : decode cX6_a 5 = .ok (.iload_n 1, 1) := by decide +kernel
theorem dX6_a_6 : decode cX6_a 6 = .ok (.imul, 1) := by decide +kernel
theorem dX6_a_7 : decode cX6_a 7 = .ok (.iconst 1, 1) := by decide +kernel
theorem dX6_a_8 : decode cX6_a 8 = .ok (.iadd, 1) := by decide +kernel
theorem dX6_a_9 : decode cX6_a 9 = .ok (.iaload, 1) := by decide +kernel
theorem dX6_a_10 : decode cX6_a 10 = .ok (.ldc 48, 2) := by decide +kernel
theorem dX6_a_12 : decode cX6_a 12 = .ok (.isub, 1) := by decide +kernel
theorem dX6_a_13 : decode cX6_a 13 = .ok (.i2l, 1) := by decide +kernel
theorem dX6_a_14 : decode cX6_a 14 = .ok (.lreturn, 1) := by decide +kernel
theorem dX6_b_0 : decode cX6_b 0 = .ok (.aload_n 0, 1) := by decide +kernel
theorem dX6_b_1 : decode cX6_b 1 = .ok (.getfield 17, 3) := by decide +kernel
theorem dX6_b_4 : decode cX6_b 4 = .ok (.iconst 3, 1) := by decide +kernel
theorem dX6_b_5 : decode cX6_b 5 = .ok (.iload_n 1, 1) := by decide +kernel
theorem dX6_b_6 : decode cX6_b 6 = .ok (.imul, 1) := by decide +kernel
theorem dX6_b_7 : decode cX6_b 7 = .ok (.iaload, 1) := by decide +kernel
theorem dX6_b_8 : decode cX6_b 8 = .ok (.aload_n 0, 1) := by decide +kernel
theorem dX6_b_9 : decode cX6_b 9 = .ok (.getfield 17, 3) := by decide +kernel
theorem dX6_b_12 : decode cX6_b 12 = .ok (.iconst 3, 1) := by decide +kernel
theorem dX6_b_13 : decode cX6_b 13 = .ok (.iload_n 1, 1) := by decide +kernel
theorem dX6_b_14 : decode cX6_b 14 = .ok (.imul, 1) := by decide +kernel
theorem dX6_b_15 : decode cX6_b 15 = .ok (.iconst 2, 1) := by decide +kernel
theorem dX6_b_16 : decode cX6_b 16 = .ok (.iadd, 1) := by decide +kernel
theorem dX6_b_17 : decode cX6_b 17 = .ok (.iaload, 1) := by decide +kernel
theorem dX6_b_18 : decode cX6_b 18 = .ok (.isub, 1) := by decide +kernel
theorem dX6_b_19 : decode cX6_b 19 = .ok (.i2l, 1) := by decide +kernel
theorem dX6_b_20 : decode cX6_b 20 = .ok (.lreturn, 1) := by decide +kernel
theorem dX6_d_0 : decode cX6_d 0 = .ok (.aload_n 0, 1) := by decide +kernel
theorem dX6_d_1 : decode cX6_d 1 = .ok (.getfield 17, 3) := by decide +kernel
theorem dX6_d_4 : decode cX6_d 4 = .ok (.iconst 3, 1) := by decide +kernel
theorem dX6_d_5 : decode cX6_d 5 = .ok (.iload_n 1, 1) := by decide +kernel
theorem dX6_d_6 : decode cX6_d 6 = .ok (.imul, 1) := by decide +kernel
theorem dX6_d_7 : decode cX6_d 7 = .ok (.iaload, 1) := by decide +kernel
theorem dX6_d_8 : decode cX6_d 8 = .ok (.aload_n 0, 1) := by decide +kernel
theorem dX6_d_9 : decode cX6_d 9 = .ok (.getfield 17, 3) := by decide +kernel
theorem dX6_d_12 : decode cX6_d 12 = .ok (.iconst 3, 1) := by decide +kernel
theorem dX6_d_13 : decode cX6_d 13 = .ok (.iload_n 1, 1) := by decide +kernel
theorem dX6_d_14 : decode cX6_d 14 = .ok (.imul, 1) := by decide +kernel
theorem dX6_d_15 : decode cX6_d 15 = .ok (.iconst 1, 1) := by decide +kernel
theorem dX6_d_16 : decode cX6_d 16 = .ok (.iadd, 1) := by decide +kernel
theorem dX6_d_17 : decode cX6_d 17 = .ok (.iaload, 1) := by decide +kernel
theorem dX6_d_18 : decode cX6_d 18 = .ok (.isub, 1) := by decide +kernel
theorem dX6_d_19 : decode cX6_d 19 = .ok (.i2l, 1) := by decide +kernel
theorem dX6_d_20 : decode cX6_d 20 = .ok (.lreturn, 1) := by decide +kernel
set_option maxRecDepth 20000 in
theorem ggX6_append_X6_within : GoodIn wsX6_append wsX6_within := goodIn_r _ [10] (by decide +kernel) (by decide +kernel)
set_option maxRecDepth 20000 in
theorem gX6_append_X6_within : GoodIn wsX6_append (va_wsS RX6 39 yX6_within wsX6_within) := goodIn_app (goodIn_of _ (by decide +kernel)) ggX6_append_X6_within
theorem dX6_append_0 : decode cX6_append 0 = .ok (.iload_n 1, 1) := by decide +kernel
theorem dX6_append_1 : decode cX6_append 1 = .ok (.i2l, 1) := by decide +kernel
theorem dX6_append_2 : decode cX6_append 2 = .ok (.ldc2_w 49, 3) := by decide +kernel
theorem dX6_append_5 : decode cX6_append 5 = .ok (.ldc2_w 51, 3) := by decide +kernel
theorem dX6_append_8 : decode cX6_append 8 = .ok (.invokestatic 39, 3) := by decide +kernel
theorem dX6_append_11 : decode cX6_append 11 = .ok (.ifCond .ne 7, 3) := by decide +kernel
theorem dX6_append_14 : decode cX6_append 14 = .ok (.ldc2_w 53, 3) := by decide +kernel
theorem dX6_append_17 : decode cX6_append 17 = .ok (.lreturn, 1) := by decide +kernel
theorem dX6_append_18 : decode cX6_append 18 = .ok (.aload_n 0, 1) := by decide +kernel
theorem dX6_append_19 : decode cX6_append 19 = .ok (.getfield 55, 3) := by decide +kernel
theorem dX6_append_22 : decode cX6_append 22 = .ok (.bipush 28, 2) := by decide +kernel
theorem dX6_append_24 : decode cX6_append 24 = .ok (.if_icmp .ne 7, 3) := by decide +kernel
theorem dX6_append_27 : decode cX6_append 27 = .ok (.ldc2_w 58, 3) := by decide +kernel
theorem dX6_append_30 : decode cX6_append 30 = .ok (.lreturn, 1) := by decide +kernel
theorem dX6_append_31 : decode cX6_append 31 = .ok (.aload_n 0, 1) := by decide +kernel
theorem dX6_append_32 : decode cX6_append 32 = .ok (.getfield 7, 3) := by decide +kernel
theorem dX6_append_35 : decode cX6_append 35 = .ok (.aload_n 0, 1) := by decide +kernel
theorem dX6_append_36 : decode cX6_append 36 = .ok (.getfield 55, 3) := by decide +kernel
theorem dX6_append_39 : decode cX6_append 39 = .ok (.iload_n 1, 1) := by decide +kernel
theorem dX6_append_40 : decode cX6_append 40 = .ok (.iastore, 1) := by decide +kernel
theorem dX6_append_41 : decode cX6_append 41 = .ok (.aload_n 0, 1) := by decide +kernel
theorem dX6_append_42 : decode cX6_append 42 = .ok (.dup, 1) := by decide +kernel
theorem dX6_append_43 : decode cX6_append 43 = .ok (.getfield 55, 3) := by decide +kernel
theorem dX6_append_46 : decode cX6_append 46 = .ok (.iconst 1, 1) := by decide +kernel
theorem dX6_append_47 : decode cX6_append 47 = .ok (.iadd, 1) := by decide +kernel
theorem dX6_append_48 : decode cX6_append 48 = .ok (.putfield 55, 3) := by decide +kernel
theorem dX6_append_51 : decode cX6_append 51 = .ok (.aload_n 0, 1) := by decide +kernel
theorem dX6_append_52 : decode cX6_append 52 = .ok (.getfield 55, 3) := by decide +kernel
theorem dX6_append_55 : decode cX6_append 55 = .ok (.i2l, 1) := by decide +kernel
theorem dX6_append_56 : decode cX6_append 56 = .ok (.lreturn, 1) := by decide +kernel
theorem dX6_clearBuffer_0 : decode cX6_clearBuffer 0 = .ok (.aload_n 0, 1) := by decide +kernel
theorem dX6_clearBuffer_1 : decode cX6_clearBuffer 1 = .ok (.getfield 55, 3) := by decide +kernel
theorem dX6_clearBuffer_4 : decode cX6_clearBuffer 4 = .ok (.istore_n 1, 1) := by decide +kernel
theorem dX6_clearBuffer_5 : decode cX6_clearBuffer 5 = .ok (.aload_n 0, 1) := by decide +kernel
theorem dX6_clearBuffer_6 : decode cX6_clearBuffer 6 = .ok (.iconst 0, 1) := by decide +kernel
theorem dX6_clearBuffer_7 : decode cX6_clearBuffer 7 = .ok (.putfield 55, 3) := by decide +kernel
theorem dX6_clearBuffer_10 : decode cX6_clearBuffer 10 = .ok (.iload_n 1, 1) := by decide +kernel
theorem dX6_clearBuffer_11 : decode cX6_clearBuffer 11 = .ok (.i2l, 1) := by decide +kernel
theorem dX6_clearBuffer_12 : decode cX6_clearBuffer 12 = .ok (.lreturn, 1) := by decide +kernel
set_option maxRecDepth 20000 in
theorem ggX6_parse_X6_within : GoodIn wsX6_parse wsX6_within := goodIn_r _ [17] (by decide +kernel) (by decide +kernel)
set_option maxRecDepth 20000 in
theorem gX6_parse_X6_within : GoodIn wsX6_parse (va_wsS RX6 39 yX6_within wsX6_within) := goodIn_app (goodIn_of _ (by decide +kernel)) ggX6_parse_X6_within
theorem dX6_parse_0 : decode cX6_parse 0 = .ok (.iconst 0, 1) := by decide +kernel
theorem dX6_parse_1 : decode cX6_parse 1 = .ok (.istore_n 1, 1) := by decide +kernel
theorem dX6_parse_2 : decode cX6_parse 2 = .ok (.iconst 0, 1) := by decide +kernel
theorem dX6_parse_3 : decode cX6_parse 3 = .ok (.istore_n 2, 1) := by decide +kernel
theorem dX6_parse_4 : decode cX6_parse 4 = .ok (.iconst 0, 1) := by decide +kernel
theorem dX6_parse_5 : decode cX6_parse 5 = .ok (.istore_n 3, 1) := by decide +kernel
theorem dX6_parse_6 : decode cX6_parse 6 = .ok (.iconst 1, 1) := by decide +kernel
theorem dX6_parse_7 : decode cX6_parse 7 = .ok (.istore 4, 2) := by decide +kernel
theorem dX6_parse_9 : decode cX6_parse 9 = .ok (.aload_n 0, 1) := by decide +kernel
theorem dX6_parse_10 : decode cX6_parse 10 = .ok (.lconst 0, 1) := by decide +kernel
theorem dX6_parse_11 : decode cX6_parse 11 = .ok (.putfield 60, 3) := by decide +kernel
theorem dX6_parse_14 : decode cX6_parse 14 = .ok (.iload 4, 2) := by decide +kernel
theorem dX6_parse_16 : decode cX6_parse 16 = .ok (.ifCond .eq 219, 3) := by decide +kernel
theorem dX6_parse_19 : decode cX6_parse 19 = .ok (.iload_n 3, 1) := by decide +kernel
theorem dX6_parse_20 : decode cX6_parse 20 = .ok (.aload_n 0, 1) := by decide +kernel
theorem dX6_parse_21 : decode cX6_parse 21 = .ok (.getfield 55, 3) := by decide +kernel
theorem dX6_parse_24 : decode cX6_parse 24 = .ok (.if_icmp .ge 211, 3) := by decide +kernel
theorem dX6_parse_27 : decode cX6_parse 27 = .ok (.aload_n 0, 1) := by decide +kernel
theorem dX6_parse_28 : decode cX6_parse 28 = .ok (.getfield 7, 3) := by decide +kernel
theorem dX6_parse_31 : decode cX6_parse 31 = .ok (.iload_n 3, 1) := by decide +kernel
theorem dX6_parse_32 : decode cX6_parse 32 = .ok (.iaload, 1) := by decide +kernel
theorem dX6_parse_33 : decode cX6_parse 33 = .ok (.istore 5, 2) := by decide +kernel
theorem dX6_parse_35 : decode cX6_parse 35 = .ok (.iload 5, 2) := by decide +kernel
theorem dX6_parse_37 : decode cX6_parse 37 = .ok (.i2l, 1) := by decide +kernel
theorem dX6_parse_38 : decode cX6_parse 38 = .ok (.ldc2_w 64, 3) := by decide +kernel
theorem dX6_parse_41 : decode cX6_parse 41 = .ok (.ldc2_w 66, 3) := by decide +kernel
theorem dX6_parse_44 : decode cX6_parse 44 = .ok (.invokestatic 39, 3) := by decide +kernel
theorem dX6_parse_47 : decode cX6_parse 47 = .ok (.istore 6, 2) := by decide +kernel
theorem dX6_parse_49 : decode cX6_parse 49 = .ok (.iload 5, 2) := by decide +kernel
theorem dX6_parse_51 : decode cX6_parse 51 = .ok (.i2l, 1) := by decide +kernel
theorem dX6_parse_52 : decode cX6_parse 52 = .ok (.ldc2_w 68, 3) := by decide +kernel
theorem dX6_parse_55 : decode cX6_parse 55 = .ok (.ldc2_w 70, 3) := by decide +kernel
theorem dX6_parse_58 : decode cX6_parse 58 = .ok (.invokestatic 39, 3) := by decide +kernel
theorem dX6_parse_61 : decode cX6_parse 61 = .ok (.istore 7, 2) := by decide +kernel
theorem dX6_parse_63 : decode cX6_parse 63 = .ok (.iload_n 1, 1) := by decide +kernel
theorem dX6_parse_64 : decode cX6_parse 64 = .ok (.ifCond .ne 45, 3) := by decide +kernel
theorem dX6_parse_67 : decode cX6_parse 67 = .ok (.iload_n 2, 1) := by decide +kernel
theorem dX6_parse_68 : decode cX6_parse 68 = .ok (.bipush 6, 2) := by decide +kernel
theorem dX6_parse_70 : decode cX6_parse 70 = .ok (.if_icmp .ge 39, 3) := by decide +kernel
theorem dX6_parse_73 : decode cX6_parse 73 = .ok (.iload 7, 2) := by decide +kernel
theorem dX6_parse_75 : decode cX6_parse 75 = .ok (.ifCond .ne 12, 3) := by decide +kernel
theorem dX6_parse_78 : decode cX6_parse 78 = .ok (.iload 6, 2) := by decide +kernel
theorem dX6_parse_80 : decode cX6_parse 80 = .ok (.ifCond .eq 29, 3) := by decide +kernel
theorem dX6_parse_83 : decode cX6_parse 83 = .ok (.iload_n 2, 1) := by decide +kernel
theorem dX6_parse_84 : decode cX6_parse 84 = .ok (.ifCond .le 25, 3) := by decide +kernel
theorem dX6_parse_87 : decode cX6_parse 87 = .ok (.aload_n 0, 1) := by decide +kernel
theorem dX6_parse_88 : decode cX6_parse 88 = .ok (.aload_n 0, 1) := by decide +kernel
theorem dX6_parse_89 : decode cX6_parse 89 = .ok (.getfield 60, 3) := by decide +kernel
theorem dX6_parse_92 : decode cX6_parse 92 = .ok (.ldc2_w 72, 3) := by decide +kernel
theorem dX6_parse_95 : decode cX6_parse 95 = .ok (.lmul, 1) := by decide +kernel
theorem dX6_parse_96 : decode cX6_parse 96 = .ok (.iload 5, 2) := by decide +kernel
theorem dX6_parse_98 : decode cX6_parse 98 = .ok (.i2l, 1) := by decide +kernel
theorem dX6_parse_99 : decode cX6_parse 99 = .ok (.ladd, 1) := by decide +kernel
theorem dX6_parse_100 : decode cX6_parse 100 = .ok (.putfield 60, 3) := by decide +kernel
theorem dX6_parse_103 : decode cX6_parse 103 = .ok (.iinc 2 1, 3) := by decide +kernel
theorem dX6_parse_106 : decode cX6_parse 106 = .ok (.goto 113, 3) := by decide +kernel
theorem dX6_parse_109 : decode cX6_parse 109 = .ok (.iload 5, 2) := by decide +kernel
theorem dX6_parse_111 : decode cX6_parse 111 = .ok (.bipush 32, 2) := by decide +kernel
theorem dX6_parse_113 : decode cX6_parse 113 = .ok (.if_icmp .ne 46, 3) := by decide +kernel
theorem dX6_parse_116 : decode cX6_parse 116 = .ok (.iload_n 1, 1) := by decide +kernel
theorem dX6_parse_117 : decode cX6_parse 117 = .ok (.ifCond .ne 7, 3) := by decide +kernel
theorem dX6_parse_120 : decode cX6_parse 120 = .ok (.iload_n 2, 1) := by decide +kernel
theorem dX6_parse_121 : decode cX6_parse 121 = .ok (.ifCond .gt 21, 3) := by decide +kernel
theorem dX6_parse_124 : decode cX6_parse 124 = .ok (.iload_n 1, 1) := by decide +kernel
theorem dX6_parse_125 : decode cX6_parse 125 = .ok (.i2l, 1) := by decide +kernel
theorem dX6_parse_126 : decode cX6_parse 126 = .ok (.lconst 1, 1) := by decide +kernel
theorem dX6_parse_127 : decode cX6_parse 127 = .ok (.ldc2_w 46, 3) := by decide +kernel
theorem dX6_parse_130 : decode cX6_parse 130 = .ok (.invokestatic 39, 3) := by decide +kernel
theorem dX6_parse_133 : decode cX6_parse 133 = .ok (.ifCond .eq 26, 3) := by decide +kernel
theorem dX6_parse_136 : decode cX6_parse 136 = .ok (.iload_n 2, 1) := by decide +kernel
theorem dX6_parse_137 : decode cX6_parse 137 = .ok (.bipush 6, 2) := by decide +kernel
theorem dX6_parse_139 : decode cX6_parse 139 = .ok (.if_icmp .ne 20, 3) := by decide +kernel
theorem dX6_parse_142 : decode cX6_parse 142 = .ok (.iinc 1 1, 3) := by decide +kernel
theorem dX6_parse_145 : decode cX6_parse 145 = .ok (.iconst 0, 1) := by decide +kernel
theorem dX6_parse_146 : decode cX6_parse 146 = .ok (.istore_n 2, 1) := by decide +kernel
theorem dX6_parse_147 : decode cX6_parse 147 = .ok (.aload_n 0, 1) := by decide +kernel
theorem dX6_parse_148 : decode cX6_parse 148 = .ok (.getfield 29, 3) := by decide +kernel
theorem dX6_parse_151 : decode cX6_parse 151 = .ok (.iload_n 1, 1) := by decide +kernel
theorem dX6_parse_152 : decode cX6_parse 152 = .ok (.iconst 1, 1) := by decide +kernel
theorem dX6_parse_153 : decode cX6_parse 153 = .ok (.isub, 1) := by decide +kernel
theorem dX6_parse_154 : decode cX6_parse 154 = .ok (.iconst 0, 1) := by decide +kernel
theorem dX6_parse_155 : decode cX6_parse 155 = .ok (.iastore, 1) := by decide +kernel
theorem dX6_parse_156 : decode cX6_parse 156 = .ok (.goto 63, 3) := by decide +kernel
theorem dX6_parse_159 : decode cX6_parse 159 = .ok (.iload_n 1, 1) := by decide +kernel
theorem dX6_parse_160 : decode cX6_parse 160 = .ok (.ifCond .le 56, 3) := by decide +kernel
theorem dX6_parse_163 : decode cX6_parse 163 = .ok (.iload 6, 2) := by decide +kernel
theorem dX6_parse_165 : decode cX6_parse 165 = .ok (.ifCond .eq 51, 3) := by decide +kernel
theorem dX6_parse_168 : decode cX6_parse 168 = .ok (.iload_n 2, 1) := by decide +kernel
theorem dX6_parse_169 : decode cX6_parse 169 = .ok (.bipush 6, 2) := by decide +kernel
theorem dX6_parse_171 : decode cX6_parse 171 = .ok (.if_icmp .ge 45, 3) := by decide +kernel
theorem dX6_parse_174 : decode cX6_parse 174 = .ok (.iload_n 2, 1) := by decide +kernel
theorem dX6_parse_175 : decode cX6_parse 175 = .ok (.ifCond .gt 10, 3) := by decide +kernel
theorem dX6_parse_178 : decode cX6_parse 178 = .ok (.iload 5, 2) := by decide +kernel
theorem dX6_parse_180 : decode cX6_parse 180 = .ok (.bipush 48, 2) := by decide +kernel
theorem dX6_parse_182 : decode cX6_parse 182 = .ok (.if_icmp .eq 34, 3) := by decide +kernel
theorem dX6_parse_185 : decode cX6_parse 185 = .ok (.aload_n 0, 1) := by decide +kernel
theorem dX6_parse_186 : decode cX6_parse 186 = .ok (.getfield 29, 3) := by decide +kernel
theorem dX6_parse_189 : decode cX6_parse 189 = .ok (.iload_n 1, 1) := by decide +kernel
theorem dX6_parse_190 : decode cX6_parse 190 = .ok (.iconst 1, 1) := by decide +kernel
theorem dX6_parse_191 : decode cX6_parse 191 = .ok (.isub, 1) := by decide +kernel
theorem dX6_parse_192 : decode cX6_parse 192 = .ok (.bipush 10, 2) := by decide +kernel
theorem dX6_parse_194 : decode cX6_parse 194 = .ok (.aload_n 0, 1) := by decide +kernel
theorem dX6_parse_195 : decode cX6_parse 195 = .ok (.getfield 29, 3) := by decide +kernel
theorem dX6_parse_198 : decode cX6_parse 198 = .ok (.iload_n 1, 1) := by decide +kernel
theorem dX6_parse_199 : decode cX6_parse 199 = .ok (.iconst 1, 1) := by decide +kernel
theorem dX6_parse_200 : decode cX6_parse 200 = .ok (.isub, 1) := by decide +kernel
theorem dX6_parse_201 : decode cX6_parse 201 = .ok (.iaload, 1) := by decide +kernel
theorem dX6_parse_202 : decode cX6_parse 202 = .ok (.imul, 1) := by decide +kernel
theorem dX6_parse_203 : decode cX6_parse 203 = .ok (.iload 5, 2) := by decide +kernel
theorem dX6_parse_205 : decode cX6_parse 205 = .ok (.iadd, 1) := by decide +kernel
theorem dX6_parse_206 : decode cX6_parse 206 = .ok (.bipush 48, 2) := by decide +kernel
theorem dX6_parse_208 : decode cX6_parse 208 = .ok (.isub, 1) := by decide +kernel
theorem dX6_parse_209 : decode cX6_parse 209 = .ok (.iastore, 1) := by decide +kernel
theorem dX6_parse_210 : decode cX6_parse 210 = .ok (.iinc 2 1, 3) := by decide +kernel
theorem dX6_parse_213 : decode cX6_parse 213 = .ok (.goto 6, 3) := by decide +kernel
theorem dX6_parse_216 : decode cX6_parse 216 = .ok (.iconst 0, 1) := by decide +kernel
theorem dX6_parse_217 : decode cX6_parse 217 = .ok (.istore 4, 2) := by decide +kernel
theorem dX6_parse_219 : decode cX6_parse 219 = .ok (.iload_n 3, 1) := by decide +kernel
theorem dX6_parse_220 : decode cX6_parse 220 = .ok (.iload 4, 2) := by decide +kernel
theorem dX6_parse_222 : decode cX6_parse 222 = .ok (.ifCond .eq 7, 3) := by decide +kernel
theorem dX6_parse_225 : decode cX6_parse 225 = .ok (.iconst 1, 1) := by decide +kernel
theorem dX6_parse_226 : decode cX6_parse 226 = .ok (.goto 4, 3) := by decide +kernel
theorem dX6_parse_229 : decode cX6_parse 229 = .ok (.iconst 0, 1) := by decide +kernel
theorem dX6_parse_230 : decode cX6_parse 230 = .ok (.iadd, 1) := by decide +kernel
theorem dX6_parse_231 : decode cX6_parse 231 = .ok (.istore_n 3, 1) := by decide +kernel
theorem dX6_parse_232 : decode cX6_parse 232 = .ok (.goto (-218), 3) := by decide +kernel
theorem dX6_parse_235 : decode cX6_parse 235 = .ok (.aload_n 0, 1) := by decide +kernel
theorem dX6_parse_236 : decode cX6_parse 236 = .ok (.iload_n 3, 1) := by decide +kernel
theorem dX6_parse_237 : decode cX6_parse 237 = .ok (.putfield 74, 3) := by decide +kernel
theorem dX6_parse_240 : decode cX6_parse 240 = .ok (.aload_n 0, 1) := by decide +kernel
theorem dX6_parse_241 : decode cX6_parse 241 = .ok (.iload 4, 2) := by decide +kernel
theorem dX6_parse_243 : decode cX6_parse 243 = .ok (.ifCond .eq 18, 3) := by decide +kernel
theorem dX6_parse_246 : decode cX6_parse 246 = .ok (.iload_n 1, 1) := by decide +kernel
theorem dX6_parse_247 : decode cX6_parse 247 = .ok (.iconst 3, 1) := by decide +kernel
theorem dX6_parse_248 : decode cX6_parse 248 = .ok (.if_icmp .ne 13, 3) := by decide +kernel
theorem dX6_parse_251 : decode cX6_parse 251 = .ok (.iload_n 2, 1) := by decide +kernel
theorem dX6_parse_252 : decode cX6_parse 252 = .ok (.bipush 6, 2) := by decide +kernel
theorem dX6_parse_254 : decode cX6_parse 254 = .ok (.if_icmp .ne 7, 3) := by decide +kernel
theorem dX6_parse_257 : decode cX6_parse 257 = .ok (.iconst 1, 1) := by decide +kernel
theorem dX6_parse_258 : decode cX6_parse 258 = .ok (.goto 4, 3) := by decide +kernel
theorem dX6_parse_261 : decode cX6_parse 261 = .ok (.iconst 0, 1) := by decide +kernel
theorem dX6_parse_262 : decode cX6_parse 262 = .ok (.putfield 77, 3) := by decide +kernel
theorem dX6_parse_265 : decode cX6_parse 265 = .ok (.aload_n 0, 1) := by decide +kernel
theorem dX6_parse_266 : decode cX6_parse 266 = .ok (.getfield 60, 3) := by decide +kernel
theorem dX6_parse_269 : decode cX6_parse 269 = .ok (.lconst 0, 1) := by decide +kernel
theorem dX6_parse_270 : decode cX6_parse 270 = .ok (.lcmp, 1) := by decide +kernel
theorem dX6_parse_271 : decode cX6_parse 271 = .ok (.ifCond .le 29, 3) := by decide +kernel
theorem dX6_parse_274 : decode cX6_parse 274 = .ok (.aload_n 0, 1) := by decide +kernel
theorem dX6_parse_275 : decode cX6_parse 275 = .ok (.getfield 60, 3) := by decide +kernel
theorem dX6_parse_278 : decode cX6_parse 278 = .ok (.ldc2_w 81, 3) := by decide +kernel
theorem dX6_parse_281 : decode cX6_parse 281 = .ok (.lcmp, 1) := by decide +kernel
theorem dX6_parse_282 : decode cX6_parse 282 = .ok (.ifCond .ge 18, 3) := by decide +kernel
theorem dX6_parse_285 : decode cX6_parse 285 = .ok (.aload_n 0, 1) := by decide +kernel
theorem dX6_parse_286 : decode cX6_parse 286 = .ok (.dup, 1) := by decide +kernel
theorem dX6_parse_287 : decode cX6_parse 287 = .ok (.getfield 60, 3) := by decide +kernel
theorem dX6_parse_290 : decode cX6_parse 290 = .ok (.ldc2_w 72, 3) := by decide +kernel
theorem dX6_parse_293 : decode cX6_parse 293 = .ok (.lmul, 1) := by decide +kernel
theorem dX6_parse_294 : decode cX6_parse 294 = .ok (.putfield 60, 3) := by decide +kernel
theorem dX6_parse_297 : decode cX6_parse 297 = .ok (.goto (-32), 3) := by decide +kernel
theorem dX6_parse_300 : decode cX6_parse 300 = .ok (.return_, 1) := by decide +kernel
set_option maxRecDepth 20000 in
theorem ggX6_errorPosition_X6_parse : GoodIn wsX6_errorPosition wsX6_parse := goodIn_r _ [6, 7, 8, 9, 10, 11, 12, 13, 14, 15, 16, 1, 17, 18, 19, 20, 5, 21, 22, 23, 24, 25, 26, 27, 28, 29, 30, 31, 32, 33, 34, 35, 36, 37, 38, 39] (by decide +kernel) (by decide +kernel)
set_option maxRecDepth 20000 in
theorem gX6_errorPosition_X6_parse : GoodIn wsX6_errorPosition (wsV RX6 83 RX6 yX6_parse wsX6_parse) := goodIn_app (goodIn_of _ (by decide +kernel)) ggX6_errorPosition_X6_parse
theorem dX6_errorPosition_0 : decode cX6_errorPosition 0 = .ok (.aload_n 0, 1) := by decide +kernel
theorem dX6_errorPosition_1 : decode cX6_errorPosition 1 = .ok (.invokevirtual 83, 3) := by decide +kernel
theorem dX6_errorPosition_4 : decode cX6_errorPosition 4 = .ok (.aload_n 0, 1) := by decide +kernel
theorem dX6_errorPosition_5 : decode cX6_errorPosition 5 = .ok (.getfield 74, 3) := by decide +kernel
theorem dX6_errorPosition_8 : decode cX6_errorPosition 8 = .ok (.i2l, 1) := by decide +kernel
theorem dX6_errorPosition_9 : decode cX6_errorPosition 9 = .ok (.lreturn, 1) := by decide +kernel
theorem dX6_isRight_0 : decode cX6_isRight 0 = .ok (.aload_n 0, 1) := by decide +kernel
theorem dX6_isRight_1 : decode cX6_isRight 1 = .ok (.getfield 29, 3) := by decide +kernel
theorem dX6_isRight_4 : decode cX6_isRight 4 = .ok (.iconst 0, 1) := by decide +kernel
theorem dX6_isRight_5 : decode cX6_isRight 5 = .ok (.iaload, 1) := by decide +kernel
theorem dX6_isRight_6 : decode cX6_isRight 6 = .ok (.istore_n 1, 1) := by decide +kernel
theorem dX6_isRight_7 : decode cX6_isRight 7 = .ok (.aload_n 0, 1) := by decide +kernel
theorem dX6_isRight_8 : decode cX6_isRight 8 = .ok (.getfield 29, 3) := by decide +kernel
theorem dX6_isRight_11 : decode cX6_isRight 11 = .ok (.iconst 1, 1) := by decide +kernel
theorem dX6_isRight_12 : decode cX6_isRight 12 = .ok (.iaload, 1) := by decide +kernel
theorem dX6_isRight_13 : decode cX6_isRight 13 = .ok (.istore_n 2, 1) := by decide +kernel
theorem dX6_isRight_14 : decode cX6_isRight 14 = .ok (.aload_n 0, 1) := by decide +kernel
theorem dX6_isRight_15 : decode cX6_isRight 15 = .ok (.getfield 29, 3) := by decide +kernel
theorem dX6_isRight_18 : decode cX6_isRight 18 = .ok (.iconst 2, 1) := by decide +kernel
theorem dX6_isRight_19 : decode cX6_isRight 19 = .ok (.iaload, 1) := by decide +kernel
theorem dX6_isRight_20 : decode cX6_isRight 20 = .ok (.istore_n 3, 1) := by decide +kernel
theorem dX6_isRight_21 : decode cX6_isRight 21 = .ok (.iload_n 3, 1) := by decide +kernel
theorem dX6_isRight_22 : decode cX6_isRight 22 = .ok (.ldc 86, 2) := by decide +kernel
theorem dX6_isRight_24 : decode cX6_isRight 24 = .ok (.if_icmp .lt 32, 3) := by decide +kernel
theorem dX6_isRight_27 : decode cX6_isRight 27 = .ok (.iload_n 3, 1) := by decide +kernel
theorem dX6_isRight_28 : decode cX6_isRight 28 = .ok (.iload_n 2, 1) := by decide +kernel
theorem dX6_isRight_29 : decode cX6_isRight 29 = .ok (.if_icmp .ge 27, 3) := by decide +kernel
theorem dX6_isRight_32 : decode cX6_isRight 32 = .ok (.iload_n 2, 1) := by decide +kernel
theorem dX6_isRight_33 : decode cX6_isRight 33 = .ok (.iload_n 1, 1) := by decide +kernel
theorem dX6_isRight_34 : decode cX6_isRight 34 = .ok (.if_icmp .ge 22, 3) := by decide +kernel
theorem dX6_isRight_37 : decode cX6_isRight 37 = .ok (.iload_n 1, 1) := by decide +kernel
theorem dX6_isRight_38 : decode cX6_isRight 38 = .ok (.ldc 87, 2) := by decide +kernel
theorem dX6_isRight_40 : decode cX6_isRight 40 = .ok (.if_icmp .gt 16, 3) := by decide +kernel
theorem dX6_isRight_43 : decode cX6_isRight 43 = .ok (.iload_n 1, 1) := by decide +kernel
theorem dX6_isRight_44 : decode cX6_isRight 44 = .ok (.iload_n 3, 1) := by decide +kernel
theorem dX6_isRight_45 : decode cX6_isRight 45 = .ok (.isub, 1) := by decide +kernel
theorem dX6_isRight_46 : decode cX6_isRight 46 = .ok (.sipush 9999, 3) := by decide +kernel
theorem dX6_isRight_49 : decode cX6_isRight 49 = .ok (.if_icmp .gt 7, 3) := by decide +kernel
theorem dX6_isRight_52 : decode cX6_isRight 52 = .ok (.iconst 1, 1) := by decide +kernel
theorem dX6_isRight_53 : decode cX6_isRight 53 = .ok (.goto 4, 3) := by decide +kernel
theorem dX6_isRight_56 : decode cX6_isRight 56 = .ok (.iconst 0, 1) := by decide +kernel
theorem dX6_isRight_57 : decode cX6_isRight 57 = .ok (.ireturn, 1) := by decide +kernel
theorem dX6_isNamed_0 : decode cX6_isNamed 0 = .ok (.iconst 0, 1) := by decide +kernel
theorem dX6_isNamed_1 : decode cX6_isNamed 1 = .ok (.istore_n 3, 1) := by decide +kernel
theorem dX6_isNamed_2 : decode cX6_isNamed 2 = .ok (.iconst 0, 1) := by decide +kernel
