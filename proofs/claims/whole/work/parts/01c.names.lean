theorem dX2_nameKey_34 : decode cX2_nameKey 34 = .ok (.iaload, 1) := by decide +kernel
theorem dX2_nameKey_35 : decode cX2_nameKey 35 = .ok (.goto 4, 3) := by decide +kernel
theorem dX2_nameKey_38 : decode cX2_nameKey 38 = .ok (.iconst 0, 1) := by decide +kernel
theorem dX2_nameKey_39 : decode cX2_nameKey 39 = .ok (.i2l, 1) := by decide +kernel
theorem dX2_nameKey_40 : decode cX2_nameKey 40 = .ok (.ladd, 1) := by decide +kernel
theorem dX2_nameKey_41 : decode cX2_nameKey 41 = .ok (.lstore_n 2, 1) := by decide +kernel
theorem dX2_nameKey_42 : decode cX2_nameKey 42 = .ok (.iinc 4 1, 3) := by decide +kernel
theorem dX2_nameKey_45 : decode cX2_nameKey 45 = .ok (.goto (-35), 3) := by decide +kernel
theorem dX2_nameKey_48 : decode cX2_nameKey 48 = .ok (.lload_n 2, 1) := by decide +kernel
theorem dX2_nameKey_49 : decode cX2_nameKey 49 = .ok (.lreturn, 1) := by decide +kernel
set_option maxRecDepth 20000 in
theorem ggX2_nameLength_X2_isLetter : GoodIn wsX2_nameLength wsX2_isLetter := goodIn_r _ [10] (by decide +kernel) (by decide +kernel)
set_option maxRecDepth 20000 in
theorem gX2_nameLength_X2_isLetter : GoodIn wsX2_nameLength (va_wsS RX2 42 yX2_isLetter wsX2_isLetter) := goodIn_app (goodIn_of _ (by decide +kernel)) ggX2_nameLength_X2_isLetter
set_option maxRecDepth 20000 in
theorem ggX2_nameLength_X2_isDigit : GoodIn wsX2_nameLength wsX2_isDigit := goodIn_r _ [13] (by decide +kernel) (by decide +kernel)
set_option maxRecDepth 20000 in
theorem gX2_nameLength_X2_isDigit : GoodIn wsX2_nameLength (va_wsS RX2 46 yX2_isDigit wsX2_isDigit) := goodIn_app (goodIn_of _ (by decide +kernel)) ggX2_nameLength_X2_isDigit
theorem dX2_nameLength_0 : decode cX2_nameLength 0 = .ok (.aload_n 0, 1) := by decide +kernel
theorem dX2_nameLength_1 : decode cX2_nameLength 1 = .ok (.getfield 15, 3) := by decide +kernel
theorem dX2_nameLength_4 : decode cX2_nameLength 4 = .ok (.bipush 6, 2) := by decide +kernel
theorem dX2_nameLength_6 : decode cX2_nameLength 6 = .ok (.invokestatic 36, 3) := by decide +kernel
theorem dX2_nameLength_9 : decode cX2_nameLength 9 = .ok (.istore_n 1, 1) := by decide +kernel
theorem dX2_nameLength_10 : decode cX2_nameLength 10 = .ok (.iconst 0, 1) := by decide +kernel
theorem dX2_nameLength_11 : decode cX2_nameLength 11 = .ok (.istore_n 2, 1) := by decide +kernel
theorem dX2_nameLength_12 : decode cX2_nameLength 12 = .ok (.iload_n 2, 1) := by decide +kernel
theorem dX2_nameLength_13 : decode cX2_nameLength 13 = .ok (.iload_n 1, 1) := by decide +kernel
theorem dX2_nameLength_14 : decode cX2_nameLength 14 = .ok (.if_icmp .ge 49, 3) := by decide +kernel
theorem dX2_nameLength_17 : decode cX2_nameLength 17 = .ok (.aload_n 0, 1) := by decide +kernel
theorem dX2_nameLength_18 : decode cX2_nameLength 18 = .ok (.getfield 11, 3) := by decide +kernel
theorem dX2_nameLength_21 : decode cX2_nameLength 21 = .ok (.iload_n 2, 1) := by decide +kernel
theorem dX2_nameLength_22 : decode cX2_nameLength 22 = .ok (.iaload, 1) := by decide +kernel
theorem dX2_nameLength_23 : decode cX2_nameLength 23 = .ok (.invokestatic 42, 3) := by decide +kernel
theorem dX2_nameLength_26 : decode cX2_nameLength 26 = .ok (.ifCond .ne 19, 3) := by decide +kernel
theorem dX2_nameLength_29 : decode cX2_nameLength 29 = .ok (.iload_n 2, 1) := by decide +kernel
theorem dX2_nameLength_30 : decode cX2_nameLength 30 = .ok (.ifCond .le 19, 3) := by decide +kernel
theorem dX2_nameLength_33 : decode cX2_nameLength 33 = .ok (.aload_n 0, 1) := by decide +kernel
theorem dX2_nameLength_34 : decode cX2_nameLength 34 = .ok (.getfield 11, 3) := by decide +kernel
theorem dX2_nameLength_37 : decode cX2_nameLength 37 = .ok (.iload_n 2, 1) := by decide +kernel
theorem dX2_nameLength_38 : decode cX2_nameLength 38 = .ok (.iaload, 1) := by decide +kernel
theorem dX2_nameLength_39 : decode cX2_nameLength 39 = .ok (.invokestatic 46, 3) := by decide +kernel
theorem dX2_nameLength_42 : decode cX2_nameLength 42 = .ok (.ifCond .eq 7, 3) := by decide +kernel
theorem dX2_nameLength_45 : decode cX2_nameLength 45 = .ok (.iconst 1, 1) := by decide +kernel
theorem dX2_nameLength_46 : decode cX2_nameLength 46 = .ok (.goto 4, 3) := by decide +kernel
theorem dX2_nameLength_49 : decode cX2_nameLength 49 = .ok (.iconst 0, 1) := by decide +kernel
theorem dX2_nameLength_50 : decode cX2_nameLength 50 = .ok (.istore_n 3, 1) := by decide +kernel
theorem dX2_nameLength_51 : decode cX2_nameLength 51 = .ok (.iload_n 3, 1) := by decide +kernel
theorem dX2_nameLength_52 : decode cX2_nameLength 52 = .ok (.ifCond .ne 5, 3) := by decide +kernel
theorem dX2_nameLength_55 : decode cX2_nameLength 55 = .ok (.iload_n 2, 1) := by decide +kernel
theorem dX2_nameLength_56 : decode cX2_nameLength 56 = .ok (.ireturn, 1) := by decide +kernel
theorem dX2_nameLength_57 : decode cX2_nameLength 57 = .ok (.iinc 2 1, 3) := by decide +kernel
theorem dX2_nameLength_60 : decode cX2_nameLength 60 = .ok (.goto (-48), 3) := by decide +kernel
theorem dX2_nameLength_63 : decode cX2_nameLength 63 = .ok (.iload_n 1, 1) := by decide +kernel
theorem dX2_nameLength_64 : decode cX2_nameLength 64 = .ok (.ireturn, 1) := by decide +kernel
set_option maxRecDepth 20000 in
theorem ggX2_isAllowedBehindName_X2_isDigit : GoodIn wsX2_isAllowedBehindName wsX2_isDigit := goodIn_r _ [4] (by decide +kernel) (by decide +kernel)
set_option maxRecDepth 20000 in
theorem gX2_isAllowedBehindName_X2_isDigit : GoodIn wsX2_isAllowedBehindName (va_wsS RX2 46 yX2_isDigit wsX2_isDigit) := goodIn_app (goodIn_of _ (by decide +kernel)) ggX2_isAllowedBehindName_X2_isDigit
theorem dX2_isAllowedBehindName_0 : decode cX2_isAllowedBehindName 0 = .ok (.iload_n 0, 1) := by decide +kernel
theorem dX2_isAllowedBehindName_1 : decode cX2_isAllowedBehindName 1 = .ok (.bipush 21, 2) := by decide +kernel
theorem dX2_isAllowedBehindName_3 : decode cX2_isAllowedBehindName 3 = .ok (.if_icmp .lt 5, 3) := by decide +kernel
theorem dX2_isAllowedBehindName_6 : decode cX2_isAllowedBehindName 6 = .ok (.iconst 0, 1) := by decide +kernel
theorem dX2_isAllowedBehindName_7 : decode cX2_isAllowedBehindName 7 = .ok (.ireturn, 1) := by decide +kernel
theorem dX2_isAllowedBehindName_8 : decode cX2_isAllowedBehindName 8 = .ok (.iload_n 0, 1) := by decide +kernel
theorem dX2_isAllowedBehindName_9 : decode cX2_isAllowedBehindName 9 = .ok (.bipush 7, 2) := by decide +kernel
theorem dX2_isAllowedBehindName_11 : decode cX2_isAllowedBehindName 11 = .ok (.irem, 1) := by decide +kernel
theorem dX2_isAllowedBehindName_12 : decode cX2_isAllowedBehindName 12 = .ok (.istore_n 2, 1) := by decide +kernel
theorem dX2_isAllowedBehindName_13 : decode cX2_isAllowedBehindName 13 = .ok (.iload_n 2, 1) := by decide +kernel
theorem dX2_isAllowedBehindName_14 : decode cX2_isAllowedBehindName 14 = .ok (.ifCond .ne 15, 3) := by decide +kernel
theorem dX2_isAllowedBehindName_17 : decode cX2_isAllowedBehindName 17 = .ok (.iload_n 1, 1) := by decide +kernel
theorem dX2_isAllowedBehindName_18 : decode cX2_isAllowedBehindName 18 = .ok (.bipush 32, 2) := by decide +kernel
theorem dX2_isAllowedBehindName_20 : decode cX2_isAllowedBehindName 20 = .ok (.if_icmp .ne 7, 3) := by decide +kernel
theorem dX2_isAllowedBehindName_23 : decode cX2_isAllowedBehindName 23 = .ok (.iconst 1, 1) := by decide +kernel
theorem dX2_isAllowedBehindName_24 : decode cX2_isAllowedBehindName 24 = .ok (.goto 4, 3) := by decide +kernel
theorem dX2_isAllowedBehindName_27 : decode cX2_isAllowedBehindName 27 = .ok (.iconst 0, 1) := by decide +kernel
theorem dX2_isAllowedBehindName_28 : decode cX2_isAllowedBehindName 28 = .ok (.ireturn, 1) := by decide +kernel
theorem dX2_isAllowedBehindName_29 : decode cX2_isAllowedBehindName 29 = .ok (.iload_n 1, 1) := by decide +kernel
theorem dX2_isAllowedBehindName_30 : decode cX2_isAllowedBehindName 30 = .ok (.invokestatic 46, 3) := by decide +kernel
theorem dX2_isAllowedBehindName_33 : decode cX2_isAllowedBehindName 33 = .ok (.ifCond .eq 18, 3) := by decide +kernel
theorem dX2_isAllowedBehindName_36 : decode cX2_isAllowedBehindName 36 = .ok (.iload_n 2, 1) := by decide +kernel
theorem dX2_isAllowedBehindName_37 : decode cX2_isAllowedBehindName 37 = .ok (.iconst 1, 1) := by decide +kernel
theorem dX2_isAllowedBehindName_38 : decode cX2_isAllowedBehindName 38 = .ok (.if_icmp .gt 9, 3) := by decide +kernel
theorem dX2_isAllowedBehindName_41 : decode cX2_isAllowedBehindName 41 = .ok (.iload_n 1, 1) := by decide +kernel
theorem dX2_isAllowedBehindName_42 : decode cX2_isAllowedBehindName 42 = .ok (.bipush 48, 2) := by decide +kernel
theorem dX2_isAllowedBehindName_44 : decode cX2_isAllowedBehindName 44 = .ok (.if_icmp .eq 7, 3) := by decide +kernel
theorem dX2_isAllowedBehindName_47 : decode cX2_isAllowedBehindName 47 = .ok (.iconst 1, 1) := by decide +kernel
theorem dX2_isAllowedBehindName_48 : decode cX2_isAllowedBehindName 48 = .ok (.goto 4, 3) := by decide +kernel
theorem dX2_isAllowedBehindName_51 : decode cX2_isAllowedBehindName 51 = .ok (.iconst 0, 1) := by decide +kernel
theorem dX2_isAllowedBehindName_52 : decode cX2_isAllowedBehindName 52 = .ok (.ireturn, 1) := by decide +kernel
theorem dX2_isLetter_0 : decode cX2_isLetter 0 = .ok (.iload_n 0, 1) := by decide +kernel
theorem dX2_isLetter_1 : decode cX2_isLetter 1 = .ok (.bipush 65, 2) := by decide +kernel
theorem dX2_isLetter_3 : decode cX2_isLetter 3 = .ok (.if_icmp .lt 13, 3) := by decide +kernel
theorem dX2_isLetter_6 : decode cX2_isLetter 6 = .ok (.iload_n 0, 1) := by decide +kernel
theorem dX2_isLetter_7 : decode cX2_isLetter 7 = .ok (.bipush 90, 2) := by decide +kernel
theorem dX2_isLetter_9 : decode cX2_isLetter 9 = .ok (.if_icmp .gt 7, 3) := by decide +kernel
theorem dX2_isLetter_12 : decode cX2_isLetter 12 = .ok (.iconst 1, 1) := by decide +kernel
theorem dX2_isLetter_13 : decode cX2_isLetter 13 = .ok (.goto 4, 3) := by decide +kernel
theorem dX2_isLetter_16 : decode cX2_isLetter 16 = .ok (.iconst 0, 1) := by decide +kernel
theorem dX2_isLetter_17 : decode cX2_isLetter 17 = .ok (.ireturn, 1) := by decide +kernel
theorem dX2_isDigit_0 : decode cX2_isDigit 0 = .ok (.iload_n 0, 1) := by decide +kernel
theorem dX2_isDigit_1 : decode cX2_isDigit 1 = .ok (.bipush 48, 2) := by decide +kernel
theorem dX2_isDigit_3 : decode cX2_isDigit 3 = .ok (.if_icmp .lt 13, 3) := by decide +kernel
theorem dX2_isDigit_6 : decode cX2_isDigit 6 = .ok (.iload_n 0, 1) := by decide +kernel
theorem dX2_isDigit_7 : decode cX2_isDigit 7 = .ok (.bipush 57, 2) := by decide +kernel
theorem dX2_isDigit_9 : decode cX2_isDigit 9 = .ok (.if_icmp .gt 7, 3) := by decide +kernel
theorem dX2_isDigit_12 : decode cX2_isDigit 12 = .ok (.iconst 1, 1) := by decide +kernel
theorem dX2_isDigit_13 : decode cX2_isDigit 13 = .ok (.goto 4, 3) := by decide +kernel
theorem dX2_isDigit_16 : decode cX2_isDigit 16 = .ok (.iconst 0, 1) := by decide +kernel
theorem dX2_isDigit_17 : decode cX2_isDigit 17 = .ok (.ireturn, 1) := by decide +kernel
theorem dX3_init_0 : decode cX3_init 0 = .ok (.aload_n 0, 1) := by decide +kernel
theorem dX3_init_1 : decode cX3_init 1 = .ok (.invokespecial 3, 3) := by decide +kernel
theorem dX3_init_4 : decode cX3_init 4 = .ok (.aload_n 0, 1) := by decide +kernel
theorem dX3_init_5 : decode cX3_init 5 = .ok (.bipush 8, 2) := by decide +kernel
theorem dX3_init_7 : decode cX3_init 7 = .ok (.newarray .int, 2) := by decide +kernel
theorem dX3_init_9 : decode cX3_init 9 = .ok (.putfield 9, 3) := by decide +kernel
theorem dX3_init_12 : decode cX3_init 12 = .ok (.aload_n 0, 1) := by decide +kernel
theorem dX3_init_13 : decode cX3_init 13 = .ok (.bipush 8, 2) := by decide +kernel
theorem dX3_init_15 : decode cX3_init 15 = .ok (.newarray .int, 2) := by decide +kernel
theorem dX3_init_17 : decode cX3_init 17 = .ok (.putfield 15, 3) := by decide +kernel
theorem dX3_init_20 : decode cX3_init 20 = .ok (.return_, 1) := by decide +kernel
theorem dX3_has_0 : decode cX3_has 0 = .ok (.iload_n 1, 1) := by decide +kernel
theorem dX3_has_1 : decode cX3_has 1 = .ok (.ifCond .lt 15, 3) := by decide +kernel
theorem dX3_has_4 : decode cX3_has 4 = .ok (.iload_n 1, 1) := by decide +kernel
theorem dX3_has_5 : decode cX3_has 5 = .ok (.aload_n 0, 1) := by decide +kernel
theorem dX3_has_6 : decode cX3_has 6 = .ok (.getfield 18, 3) := by decide +kernel
theorem dX3_has_9 : decode cX3_has 9 = .ok (.if_icmp .ge 7, 3) := by decide +kernel
theorem dX3_has_12 : decode cX3_has 12 = .ok (.iconst 1, 1) := by decide +kernel
theorem dX3_has_13 : decode cX3_has 13 = .ok (.goto 4, 3) := by decide +kernel
theorem dX3_has_16 : decode cX3_has 16 = .ok (.iconst 0, 1) := by decide +kernel
theorem dX3_has_17 : decode cX3_has 17 = .ok (.ireturn, 1) := by decide +kernel
theorem dX3_uses_0 : decode cX3_uses 0 = .ok (.iconst 0, 1) := by decide +kernel
theorem dX3_uses_1 : decode cX3_uses 1 = .ok (.istore_n 2, 1) := by decide +kernel
theorem dX3_uses_2 : decode cX3_uses 2 = .ok (.iload_n 2, 1) := by decide +kernel
theorem dX3_uses_3 : decode cX3_uses 3 = .ok (.aload_n 0, 1) := by decide +kernel
theorem dX3_uses_4 : decode cX3_uses 4 = .ok (.getfield 18, 3) := by decide +kernel
theorem dX3_uses_7 : decode cX3_uses 7 = .ok (.if_icmp .ge 21, 3) := by decide +kernel
theorem dX3_uses_10 : decode cX3_uses 10 = .ok (.aload_n 0, 1) := by decide +kernel
theorem dX3_uses_11 : decode cX3_uses 11 = .ok (.getfield 9, 3) := by decide +kernel
theorem dX3_uses_14 : decode cX3_uses 14 = .ok (.iload_n 2, 1) := by decide +kernel
theorem dX3_uses_15 : decode cX3_uses 15 = .ok (.iaload, 1) := by decide +kernel
theorem dX3_uses_16 : decode cX3_uses 16 = .ok (.iload_n 1, 1) := by decide +kernel
theorem dX3_uses_17 : decode cX3_uses 17 = .ok (.if_icmp .ne 5, 3) := by decide +kernel
theorem dX3_uses_20 : decode cX3_uses 20 = .ok (.iconst 1, 1) := by decide +kernel
theorem dX3_uses_21 : decode cX3_uses 21 = .ok (.ireturn, 1) := by decide +kernel
theorem dX3_uses_22 : decode cX3_uses 22 = .ok (.iinc 2 1, 3) := by decide +kernel
theorem dX3_uses_25 : decode cX3_uses 25 = .ok (.goto (-23), 3) := by decide +kernel
theorem dX3_uses_28 : decode cX3_uses 28 = .ok (.iconst 0, 1) := by decide +kernel
theorem dX3_uses_29 : decode cX3_uses 29 = .ok (.ireturn, 1) := by decide +kernel
theorem dX3_add_0 : decode cX3_add 0 = .ok (.aload_n 0, 1) := by decide +kernel
theorem dX3_add_1 : decode cX3_add 1 = .ok (.getfield 18, 3) := by decide +kernel
theorem dX3_add_4 : decode cX3_add 4 = .ok (.bipush 8, 2) := by decide +kernel
theorem dX3_add_6 : decode cX3_add 6 = .ok (.if_icmp .ge 33, 3) := by decide +kernel
theorem dX3_add_9 : decode cX3_add 9 = .ok (.aload_n 0, 1) := by decide +kernel
theorem dX3_add_10 : decode cX3_add 10 = .ok (.getfield 9, 3) := by decide +kernel
theorem dX3_add_13 : decode cX3_add 13 = .ok (.aload_n 0, 1) := by decide +kernel
theorem dX3_add_14 : decode cX3_add 14 = .ok (.getfield 18, 3) := by decide +kernel
theorem dX3_add_17 : decode cX3_add 17 = .ok (.iload_n 1, 1) := by decide +kernel
theorem dX3_add_18 : decode cX3_add 18 = .ok (.iastore, 1) := by decide +kernel
theorem dX3_add_19 : decode cX3_add 19 = .ok (.aload_n 0, 1) := by decide +kernel
theorem dX3_add_20 : decode cX3_add 20 = .ok (.getfield 15, 3) := by decide +kernel
theorem dX3_add_23 : decode cX3_add 23 = .ok (.aload_n 0, 1) := by decide +kernel
theorem dX3_add_24 : decode cX3_add 24 = .ok (.getfield 18, 3) := by decide +kernel
theorem dX3_add_27 : decode cX3_add 27 = .ok (.iload_n 2, 1) := by decide +kernel
theorem dX3_add_28 : decode cX3_add 28 = .ok (.iastore, 1) := by decide +kernel
theorem dX3_add_29 : decode cX3_add 29 = .ok (.aload_n 0, 1) := by decide +kernel
theorem dX3_add_30 : decode cX3_add 30 = .ok (.dup, 1) := by decide +kernel
theorem dX3_add_31 : decode cX3_add 31 = .ok (.getfield 18, 3) := by decide +kernel
theorem dX3_add_34 : decode cX3_add 34 = .ok (.iconst 1, 1) := by decide +kernel
theorem dX3_add_35 : decode cX3_add 35 = .ok (.iadd, 1) := by decide +kernel
theorem dX3_add_36 : decode cX3_add 36 = .ok (.putfield 18, 3) := by decide +kernel
theorem dX3_add_39 : decode cX3_add 39 = .ok (.return_, 1) := by decide +kernel
set_option maxRecDepth 20000 in
theorem ggX3_remove_X3_has : GoodIn wsX3_remove wsX3_has := goodIn_r _ [8, 1, 9, 10, 11] (by decide +kernel) (by decide +kernel)
set_option maxRecDepth 20000 in
theorem gX3_remove_X3_has : GoodIn wsX3_remove (wsV RX3 22 RX3 yX3_has wsX3_has) := goodIn_app (goodIn_of _ (by decide +kernel)) ggX3_remove_X3_has
theorem dX3_remove_0 : decode cX3_remove 0 = .ok (.aload_n 0, 1) := by decide +kernel
theorem dX3_remove_1 : decode cX3_remove 1 = .ok (.iload_n 1, 1) := by decide +kernel
theorem dX3_remove_2 : decode cX3_remove 2 = .ok (.invokevirtual 22, 3) := by decide +kernel
theorem dX3_remove_5 : decode cX3_remove 5 = .ok (.ifCond .eq 59, 3) := by decide +kernel
theorem dX3_remove_8 : decode cX3_remove 8 = .ok (.iload_n 1, 1) := by decide +kernel
theorem dX3_remove_9 : decode cX3_remove 9 = .ok (.iconst 1, 1) := by decide +kernel
theorem dX3_remove_10 : decode cX3_remove 10 = .ok (.iadd, 1) := by decide +kernel
theorem dX3_remove_11 : decode cX3_remove 11 = .ok (.istore_n 2, 1) := by decide +kernel
theorem dX3_remove_12 : decode cX3_remove 12 = .ok (.iload_n 2, 1) := by decide +kernel
theorem dX3_remove_13 : decode cX3_remove 13 = .ok (.aload_n 0, 1) := by decide +kernel
theorem dX3_remove_14 : decode cX3_remove 14 = .ok (.getfield 18, 3) := by decide +kernel
theorem dX3_remove_17 : decode cX3_remove 17 = .ok (.if_icmp .ge 37, 3) := by decide +kernel
theorem dX3_remove_20 : decode cX3_remove 20 = .ok (.aload_n 0, 1) := by decide +kernel
theorem dX3_remove_21 : decode cX3_remove 21 = .ok (.getfield 9, 3) := by decide +kernel
theorem dX3_remove_24 : decode cX3_remove 24 = .ok (.iload_n 2, 1) := by decide +kernel
theorem dX3_remove_25 : decode cX3_remove 25 = .ok (.iconst 1, 1) := by decide +kernel
theorem dX3_remove_26 : decode cX3_remove 26 = .ok (.isub, 1) := by decide +kernel
theorem dX3_remove_27 : decode cX3_remove 27 = .ok (.aload_n 0, 1) := by decide +kernel
theorem dX3_remove_28 : decode cX3_remove 28 = .ok (.getfield 9, 3) := by decide +kernel
theorem dX3_remove_31 : decode cX3_remove 31 = .ok (.iload_n 2, 1) := by decide +kernel
theorem dX3_remove_32 : decode cX3_remove 32 = .ok (.iaload, 1) := by decide +kernel
theorem dX3_remove_33 : decode cX3_remove 33 = .ok (.iastore, 1) := by decide +kernel
theorem dX3_remove_34 : decode cX3_remove 34 = .ok (.aload_n 0, 1) := by decide +kernel
theorem dX3_remove_35 : decode cX3_remove 35 = .ok (.getfield 15, 3) := by decide +kernel
theorem dX3_remove_38 : decode cX3_remove 38 = .ok (.iload_n 2, 1) := by decide +kernel
theorem dX3_remove_39 : decode cX3_remove 39 = .ok (.iconst 1, 1) := by decide +kernel
theorem dX3_remove_40 : decode cX3_remove 40 = .ok (.isub, 1) := by decide +kernel
theorem dX3_remove_41 : decode cX3_remove 41 = .ok (.aload_n 0, 1) := by decide +kernel
theorem dX3_remove_42 : decode cX3_remove 42 = .ok (.getfield 15, 3) := by decide +kernel
theorem dX3_remove_45 : decode cX3_remove 45 = .ok (.iload_n 2, 1) := by decide +kernel
theorem dX3_remove_46 : decode cX3_remove 46 = .ok (.iaload, 1) := by decide +kernel
theorem dX3_remove_47 : decode cX3_remove 47 = .ok (.iastore, 1) := by decide +kernel
theorem dX3_remove_48 : decode cX3_remove 48 = .ok (.iinc 2 1, 3) := by decide +kernel
theorem dX3_remove_51 : decode cX3_remove 51 = .ok (.goto (-39), 3) := by decide +kernel
theorem dX3_remove_54 : decode cX3_remove 54 = .ok (.aload_n 0, 1) := by decide +kernel
theorem dX3_remove_55 : decode cX3_remove 55 = .ok (.dup, 1) := by decide +kernel
theorem dX3_remove_56 : decode cX3_remove 56 = .ok (.getfield 18, 3) := by decide +kernel
theorem dX3_remove_59 : decode cX3_remove 59 = .ok (.iconst 1, 1) := by decide +kernel
theorem dX3_remove_60 : decode cX3_remove 60 = .ok (.isub, 1) := by decide +kernel
theorem dX3_remove_61 : decode cX3_remove 61 = .ok (.putfield 18, 3) := by decide +kernel
theorem dX3_remove_64 : decode cX3_remove 64 = .ok (.return_, 1) := by decide +kernel
theorem dX3_closeGapAt_0 : decode cX3_closeGapAt 0 = .ok (.iconst 0, 1) := by decide +kernel
theorem dX3_closeGapAt_1 : decode cX3_closeGapAt 1 = .ok (.istore_n 2, 1) := by decide +kernel
theorem dX3_closeGapAt_2 : decode cX3_closeGapAt 2 = .ok (.iload_n 2, 1) := by decide +kernel
theorem dX3_closeGapAt_3 : decode cX3_closeGapAt 3 = .ok (.aload_n 0, 1) := by decide +kernel
theorem dX3_closeGapAt_4 : decode cX3_closeGapAt 4 = .ok (.getfield 18, 3) := by decide +kernel
theorem dX3_closeGapAt_7 : decode cX3_closeGapAt 7 = .ok (.if_icmp .ge 29, 3) := by decide +kernel
theorem dX3_closeGapAt_10 : decode cX3_closeGapAt 10 = .ok (.aload_n 0, 1) := by decide +kernel
theorem dX3_closeGapAt_11 : decode cX3_closeGapAt 11 = .ok (.getfield 9, 3) := by decide +kernel
theorem dX3_closeGapAt_14 : decode cX3_closeGapAt 14 = .ok (.iload_n 2, 1) := by decide +kernel
theorem dX3_closeGapAt_15 : decode cX3_closeGapAt 15 = .ok (.iaload, 1) := by decide +kernel
theorem dX3_closeGapAt_16 : decode cX3_closeGapAt 16 = .ok (.iload_n 1, 1) := by decide +kernel
theorem dX3_closeGapAt_17 : decode cX3_closeGapAt 17 = .ok (.if_icmp .le 13, 3) := by decide +kernel
theorem dX3_closeGapAt_20 : decode cX3_closeGapAt 20 = .ok (.aload_n 0, 1) := by decide +kernel
theorem dX3_closeGapAt_21 : decode cX3_closeGapAt 21 = .ok (.getfield 9, 3) := by decide +kernel
theorem dX3_closeGapAt_24 : decode cX3_closeGapAt 24 = .ok (.iload_n 2, 1) := by decide +kernel
theorem dX3_closeGapAt_25 : decode cX3_closeGapAt 25 = .ok (.dup2, 1) := by decide +kernel
theorem dX3_closeGapAt_26 : decode cX3_closeGapAt 26 = .ok (.iaload, 1) := by decide +kernel
theorem dX3_closeGapAt_27 : decode cX3_closeGapAt 27 = .ok (.iconst 1, 1) := by decide +kernel
theorem dX3_closeGapAt_28 : decode cX3_closeGapAt 28 = .ok (.isub, 1) := by decide +kernel
theorem dX3_closeGapAt_29 : decode cX3_closeGapAt 29 = .ok (.iastore, 1) := by decide +kernel
theorem dX3_closeGapAt_30 : decode cX3_closeGapAt 30 = .ok (.iinc 2 1, 3) := by decide +kernel
theorem dX3_closeGapAt_33 : decode cX3_closeGapAt 33 = .ok (.goto (-31), 3) := by decide +kernel
theorem dX3_closeGapAt_36 : decode cX3_closeGapAt 36 = .ok (.return_, 1) := by decide +kernel
theorem dX3_glassOf_0 : decode cX3_glassOf 0 = .ok (.aload_n 0, 1) := by decide +kernel
theorem dX3_glassOf_1 : decode cX3_glassOf 1 = .ok (.getfield 9, 3) := by decide +kernel
theorem dX3_glassOf_4 : decode cX3_glassOf 4 = .ok (.iload_n 1, 1) := by decide +kernel
theorem dX3_glassOf_5 : decode cX3_glassOf 5 = .ok (.iaload, 1) := by decide +kernel
theorem dX3_glassOf_6 : decode cX3_glassOf 6 = .ok (.ireturn, 1) := by decide +kernel
theorem dX3_powerOf_0 : decode cX3_powerOf 0 = .ok (.aload_n 0, 1) := by decide +kernel
theorem dX3_powerOf_1 : decode cX3_powerOf 1 = .ok (.getfield 15, 3) := by decide +kernel
theorem dX3_powerOf_4 : decode cX3_powerOf 4 = .ok (.iload_n 1, 1) := by decide +kernel
theorem dX3_powerOf_5 : decode cX3_powerOf 5 = .ok (.iaload, 1) := by decide +kernel
theorem dX3_powerOf_6 : decode cX3_powerOf 6 = .ok (.ireturn, 1) := by decide +kernel
set_option maxRecDepth 20000 in
theorem ggX3_powerFor_X3_lensPower : GoodIn wsX3_powerFor wsX3_lensPower := goodIn_r _ [7, 8, 9, 10, 2, 11, 12, 13, 14, 15, 16, 17, 18, 19, 20, 21, 22, 23, 24, 25, 26, 27, 28, 29, 30, 31, 32, 33, 34, 35, 36, 37, 38] (by decide +kernel) (by decide +kernel)
set_option maxRecDepth 20000 in
theorem gX3_powerFor_X3_lensPower : GoodIn wsX3_powerFor (wsV RX3 26 RX3 yX3_lensPower wsX3_lensPower) := goodIn_app (goodIn_of _ (by decide +kernel)) ggX3_powerFor_X3_lensPower
theorem dX3_powerFor_0 : decode cX3_powerFor 0 = .ok (.lconst 0, 1) := by decide +kernel
theorem dX3_powerFor_1 : decode cX3_powerFor 1 = .ok (.lstore_n 3, 1) := by decide +kernel
theorem dX3_powerFor_2 : decode cX3_powerFor 2 = .ok (.iconst 0, 1) := by decide +kernel
theorem dX3_powerFor_3 : decode cX3_powerFor 3 = .ok (.istore 5, 2) := by decide +kernel
theorem dX3_powerFor_5 : decode cX3_powerFor 5 = .ok (.iload 5, 2) := by decide +kernel
theorem dX3_powerFor_7 : decode cX3_powerFor 7 = .ok (.aload_n 0, 1) := by decide +kernel
theorem dX3_powerFor_8 : decode cX3_powerFor 8 = .ok (.getfield 18, 3) := by decide +kernel
theorem dX3_powerFor_11 : decode cX3_powerFor 11 = .ok (.if_icmp .ge 27, 3) := by decide +kernel
theorem dX3_powerFor_14 : decode cX3_powerFor 14 = .ok (.lload_n 3, 1) := by decide +kernel
theorem dX3_powerFor_15 : decode cX3_powerFor 15 = .ok (.aload_n 0, 1) := by decide +kernel
theorem dX3_powerFor_16 : decode cX3_powerFor 16 = .ok (.iload 5, 2) := by decide +kernel
theorem dX3_powerFor_18 : decode cX3_powerFor 18 = .ok (.aload_n 0, 1) := by decide +kernel
theorem dX3_powerFor_19 : decode cX3_powerFor 19 = .ok (.getfield 9, 3) := by decide +kernel
theorem dX3_powerFor_22 : decode cX3_powerFor 22 = .ok (.iload 5, 2) := by decide +kernel
theorem dX3_powerFor_24 : decode cX3_powerFor 24 = .ok (.iaload, 1) := by decide +kernel
theorem dX3_powerFor_25 : decode cX3_powerFor 25 = .ok (.iload_n 1, 1) := by decide +kernel
theorem dX3_powerFor_26 : decode cX3_powerFor 26 = .ok (.aload_n 2, 1) := by decide +kernel
theorem dX3_powerFor_27 : decode cX3_powerFor 27 = .ok (.invokevirtual 26, 3) := by decide +kernel
theorem dX3_powerFor_30 : decode cX3_powerFor 30 = .ok (.ladd, 1) := by decide +kernel
theorem dX3_powerFor_31 : decode cX3_powerFor 31 = .ok (.lstore_n 3, 1) := by decide +kernel
theorem dX3_powerFor_32 : decode cX3_powerFor 32 = .ok (.iinc 5 1, 3) := by decide +kernel
theorem dX3_powerFor_35 : decode cX3_powerFor 35 = .ok (.goto (-30), 3) := by decide +kernel
theorem dX3_powerFor_38 : decode cX3_powerFor 38 = .ok (.lload_n 3, 1) := by decide +kernel
theorem dX3_powerFor_39 : decode cX3_powerFor 39 = .ok (.lreturn, 1) := by decide +kernel
set_option maxRecDepth 20000 in
theorem ggX3_changeWith_X3_lensPower : GoodIn wsX3_changeWith wsX3_lensPower := goodIn_r _ [6, 7, 8, 9, 1, 10, 11, 12, 13, 14, 15, 16, 17, 18, 19, 20, 21, 22, 23, 24, 25, 26, 27, 28, 29, 30, 31, 32, 33, 34, 35, 36, 37] (by decide +kernel) (by decide +kernel)
set_option maxRecDepth 20000 in
theorem gX3_changeWith_X3_lensPower : GoodIn wsX3_changeWith (wsV RX3 26 RX3 yX3_lensPower wsX3_lensPower) := goodIn_app (goodIn_of _ (by decide +kernel)) ggX3_changeWith_X3_lensPower
theorem dX3_changeWith_0 : decode cX3_changeWith 0 = .ok (.aload_n 0, 1) := by decide +kernel
theorem dX3_changeWith_1 : decode cX3_changeWith 1 = .ok (.iload_n 1, 1) := by decide +kernel
theorem dX3_changeWith_2 : decode cX3_changeWith 2 = .ok (.iload_n 2, 1) := by decide +kernel
theorem dX3_changeWith_3 : decode cX3_changeWith 3 = .ok (.iload_n 3, 1) := by decide +kernel
theorem dX3_changeWith_4 : decode cX3_changeWith 4 = .ok (.aload 4, 2) := by decide +kernel
theorem dX3_changeWith_6 : decode cX3_changeWith 6 = .ok (.invokevirtual 26, 3) := by decide +kernel
theorem dX3_changeWith_9 : decode cX3_changeWith 9 = .ok (.aload_n 0, 1) := by decide +kernel
theorem dX3_changeWith_10 : decode cX3_changeWith 10 = .ok (.iload_n 1, 1) := by decide +kernel
theorem dX3_changeWith_11 : decode cX3_changeWith 11 = .ok (.aload_n 0, 1) := by decide +kernel
theorem dX3_changeWith_12 : decode cX3_changeWith 12 = .ok (.getfield 9, 3) := by decide +kernel
theorem dX3_changeWith_15 : decode cX3_changeWith 15 = .ok (.iload_n 1, 1) := by decide +kernel
theorem dX3_changeWith_16 : decode cX3_changeWith 16 = .ok (.iaload, 1) := by decide +kernel
theorem dX3_changeWith_17 : decode cX3_changeWith 17 = .ok (.iload_n 3, 1) := by decide +kernel
theorem dX3_changeWith_18 : decode cX3_changeWith 18 = .ok (.aload 4, 2) := by decide +kernel
theorem dX3_changeWith_20 : decode cX3_changeWith 20 = .ok (.invokevirtual 26, 3) := by decide +kernel
theorem dX3_changeWith_23 : decode cX3_changeWith 23 = .ok (.lsub, 1) := by decide +kernel
theorem dX3_changeWith_24 : decode cX3_changeWith 24 = .ok (.lreturn, 1) := by decide +kernel
set_option maxRecDepth 20000 in
theorem ggX3_lensPower_X0_indexFor : GoodIn wsX3_lensPower wsX0_indexFor := goodIn_r _ [9, 10, 11, 12, 28, 29, 30, 31, 32] (by decide +kernel) (by decide +kernel)
set_option maxRecDepth 20000 in
theorem gX3_lensPower_X0_indexFor : GoodIn wsX3_lensPower (wsV RX3 30 RX0 yX0_indexFor wsX0_indexFor) := goodIn_app (goodIn_of _ (by decide +kernel)) ggX3_lensPower_X0_indexFor
set_option maxRecDepth 20000 in
theorem ggX3_lensPower_X0_valueA : GoodIn wsX3_lensPower wsX0_valueA := goodIn_r _ [16, 11, 17, 28, 29, 30, 31, 32] (by decide +kernel) (by decide +kernel)
set_option maxRecDepth 20000 in
theorem gX3_lensPower_X0_valueA : GoodIn wsX3_lensPower (wsV RX3 40 RX0 yX0_valueA wsX0_valueA) := goodIn_app (goodIn_of _ (by decide +kernel)) ggX3_lensPower_X0_valueA
set_option maxRecDepth 20000 in
theorem ggX3_lensPower_X5_floorQuotient : GoodIn wsX3_lensPower wsX5_floorQuotient := goodIn_r _ [20, 21, 22, 23, 24] (by decide +kernel) (by decide +kernel)
set_option maxRecDepth 20000 in
theorem gX3_lensPower_X5_floorQuotient_n44 : GoodIn wsX3_lensPower (wsX5_floorQuotient) := ggX3_lensPower_X5_floorQuotient
theorem dX3_lensPower_0 : decode cX3_lensPower 0 = .ok (.aload 4, 2) := by decide +kernel
theorem dX3_lensPower_2 : decode cX3_lensPower 2 = .ok (.iload_n 2, 1) := by decide +kernel
theorem dX3_lensPower_3 : decode cX3_lensPower 3 = .ok (.iload_n 3, 1) := by decide +kernel
theorem dX3_lensPower_4 : decode cX3_lensPower 4 = .ok (.invokevirtual 30, 3) := by decide +kernel
theorem dX3_lensPower_7 : decode cX3_lensPower 7 = .ok (.ldc2_w 36, 3) := by decide +kernel
theorem dX3_lensPower_10 : decode cX3_lensPower 10 = .ok (.lsub, 1) := by decide +kernel
theorem dX3_lensPower_11 : decode cX3_lensPower 11 = .ok (.lstore 5, 2) := by decide +kernel
theorem dX3_lensPower_13 : decode cX3_lensPower 13 = .ok (.aload_n 0, 1) := by decide +kernel
theorem dX3_lensPower_14 : decode cX3_lensPower 14 = .ok (.getfield 15, 3) := by decide +kernel
theorem dX3_lensPower_17 : decode cX3_lensPower 17 = .ok (.iload_n 1, 1) := by decide +kernel
theorem dX3_lensPower_18 : decode cX3_lensPower 18 = .ok (.iaload, 1) := by decide +kernel
theorem dX3_lensPower_19 : decode cX3_lensPower 19 = .ok (.i2l, 1) := by decide +kernel
theorem dX3_lensPower_20 : decode cX3_lensPower 20 = .ok (.ldc2_w 38, 3) := by decide +kernel
theorem dX3_lensPower_23 : decode cX3_lensPower 23 = .ok (.lmul, 1) := by decide +kernel
theorem dX3_lensPower_24 : decode cX3_lensPower 24 = .ok (.lload 5, 2) := by decide +kernel
theorem dX3_lensPower_26 : decode cX3_lensPower 26 = .ok (.lmul, 1) := by decide +kernel
theorem dX3_lensPower_27 : decode cX3_lensPower 27 = .ok (.aload 4, 2) := by decide +kernel
theorem dX3_lensPower_29 : decode cX3_lensPower 29 = .ok (.aload_n 0, 1) := by decide +kernel
theorem dX3_lensPower_30 : decode cX3_lensPower 30 = .ok (.getfield 9, 3) := by decide +kernel
theorem dX3_lensPower_33 : decode cX3_lensPower 33 = .ok (.iload_n 1, 1) := by decide +kernel
theorem dX3_lensPower_34 : decode cX3_lensPower 34 = .ok (.iaload, 1) := by decide +kernel
theorem dX3_lensPower_35 : decode cX3_lensPower 35 = .ok (.invokevirtual 40, 3) := by decide +kernel
theorem dX3_lensPower_38 : decode cX3_lensPower 38 = .ok (.invokestatic 44, 3) := by decide +kernel
theorem dX3_lensPower_41 : decode cX3_lensPower 41 = .ok (.lreturn, 1) := by decide +kernel
theorem dX4_init_0 : decode cX4_init 0 = .ok (.aload_n 0, 1) := by decide +kernel
theorem dX4_init_1 : decode cX4_init 1 = .ok (.invokespecial 3, 3) := by decide +kernel
theorem dX4_init_4 : decode cX4_init 4 = .ok (.aload_n 0, 1) := by decide +kernel
theorem dX4_init_5 : decode cX4_init 5 = .ok (.bipush 16, 2) := by decide +kernel
theorem dX4_init_7 : decode cX4_init 7 = .ok (.newarray .int, 2) := by decide +kernel
theorem dX4_init_9 : decode cX4_init 9 = .ok (.putfield 9, 3) := by decide +kernel
theorem dX4_init_12 : decode cX4_init 12 = .ok (.return_, 1) := by decide +kernel
theorem dX4_has_0 : decode cX4_has 0 = .ok (.iload_n 1, 1) := by decide +kernel
theorem dX4_has_1 : decode cX4_has 1 = .ok (.ifCond .lt 15, 3) := by decide +kernel
theorem dX4_has_4 : decode cX4_has 4 = .ok (.iload_n 1, 1) := by decide +kernel
theorem dX4_has_5 : decode cX4_has 5 = .ok (.aload_n 0, 1) := by decide +kernel
theorem dX4_has_6 : decode cX4_has 6 = .ok (.getfield 15, 3) := by decide +kernel
theorem dX4_has_9 : decode cX4_has 9 = .ok (.if_icmp .ge 7, 3) := by decide +kernel
theorem dX4_has_12 : decode cX4_has 12 = .ok (.iconst 1, 1) := by decide +kernel
theorem dX4_has_13 : decode cX4_has 13 = .ok (.goto 4, 3) := by decide +kernel
theorem dX4_has_16 : decode cX4_has 16 = .ok (.iconst 0, 1) := by decide +kernel
theorem dX4_has_17 : decode cX4_has 17 = .ok (.ireturn, 1) := by decide +kernel
theorem dX4_hasRadius_0 : decode cX4_hasRadius 0 = .ok (.iconst 0, 1) := by decide +kernel
theorem dX4_hasRadius_1 : decode cX4_hasRadius 1 = .ok (.istore_n 2, 1) := by decide +kernel
theorem dX4_hasRadius_2 : decode cX4_hasRadius 2 = .ok (.iload_n 2, 1) := by decide +kernel
theorem dX4_hasRadius_3 : decode cX4_hasRadius 3 = .ok (.aload_n 0, 1) := by decide +kernel
theorem dX4_hasRadius_4 : decode cX4_hasRadius 4 = .ok (.getfield 15, 3) := by decide +kernel
theorem dX4_hasRadius_7 : decode cX4_hasRadius 7 = .ok (.if_icmp .ge 21, 3) := by decide +kernel
theorem dX4_hasRadius_10 : decode cX4_hasRadius 10 = .ok (.aload_n 0, 1) := by decide +kernel
theorem dX4_hasRadius_11 : decode cX4_hasRadius 11 = .ok (.getfield 9, 3) := by decide +kernel
theorem dX4_hasRadius_14 : decode cX4_hasRadius 14 = .ok (.iload_n 2, 1) := by decide +kernel
theorem dX4_hasRadius_15 : decode cX4_hasRadius 15 = .ok (.iaload, 1) := by decide +kernel
theorem dX4_hasRadius_16 : decode cX4_hasRadius 16 = .ok (.iload_n 1, 1) := by decide +kernel
theorem dX4_hasRadius_17 : decode cX4_hasRadius 17 = .ok (.if_icmp .ne 5, 3) := by decide +kernel
theorem dX4_hasRadius_20 : decode cX4_hasRadius 20 = .ok (.iconst 1, 1) := by decide +kernel
theorem dX4_hasRadius_21 : decode cX4_hasRadius 21 = .ok (.ireturn, 1) := by decide +kernel
theorem dX4_hasRadius_22 : decode cX4_hasRadius 22 = .ok (.iinc 2 1, 3) := by decide +kernel
theorem dX4_hasRadius_25 : decode cX4_hasRadius 25 = .ok (.goto (-23), 3) := by decide +kernel
theorem dX4_hasRadius_28 : decode cX4_hasRadius 28 = .ok (.iconst 0, 1) := by decide +kernel
theorem dX4_hasRadius_29 : decode cX4_hasRadius 29 = .ok (.ireturn, 1) := by decide +kernel
theorem dX4_add_0 : decode cX4_add 0 = .ok (.aload_n 0, 1) := by decide +kernel
theorem dX4_add_1 : decode cX4_add 1 = .ok (.getfield 15, 3) := by decide +kernel
theorem dX4_add_4 : decode cX4_add 4 = .ok (.bipush 16, 2) := by decide +kernel
theorem dX4_add_6 : decode cX4_add 6 = .ok (.if_icmp .ge 23, 3) := by decide +kernel
theorem dX4_add_9 : decode cX4_add 9 = .ok (.aload_n 0, 1) := by decide +kernel
theorem dX4_add_10 : decode cX4_add 10 = .ok (.getfield 9, 3) := by decide +kernel
theorem dX4_add_13 : decode cX4_add 13 = .ok (.aload_n 0, 1) := by decide +kernel
theorem dX4_add_14 : decode cX4_add 14 = .ok (.getfield 15, 3) := by decide +kernel
theorem dX4_add_17 : decode cX4_add 17 = .ok (.iload_n 1, 1) := by decide +kernel
theorem dX4_add_18 : decode cX4_add 18 = .ok (.iastore, 1) := by decide +kernel
theorem dX4_add_19 : decode cX4_add 19 = .ok (.aload_n 0, 1) := by decide +kernel
theorem dX4_add_20 : decode cX4_add 20 = .ok (.dup, 1) := by decide +kernel
theorem dX4_add_21 : decode cX4_add 21 = .ok (.getfield 15, 3) := by decide +kernel
theorem dX4_add_24 : decode cX4_add 24 = .ok (.iconst 1, 1) := by decide +kernel
theorem dX4_add_25 : decode cX4_add 25 = .ok (.iadd, 1) := by decide +kernel
theorem dX4_add_26 : decode cX4_add 26 = .ok (.putfield 15, 3) := by decide +kernel
theorem dX4_add_29 : decode cX4_add 29 = .ok (.return_, 1) := by decide +kernel
theorem dX4_nearestTo_0 : decode cX4_nearestTo 0 = .ok (.iconst (-1), 1) := by decide +kernel
theorem dX4_nearestTo_1 : decode cX4_nearestTo 1 = .ok (.istore_n 2, 1) := by decide +kernel
theorem dX4_nearestTo_2 : decode cX4_nearestTo 2 = .ok (.lconst 0, 1) := by decide +kernel
theorem dX4_nearestTo_3 : decode cX4_nearestTo 3 = .ok (.lstore_n 3, 1) := by decide +kernel
theorem dX4_nearestTo_4 : decode cX4_nearestTo 4 = .ok (.iconst 0, 1) := by decide +kernel
theorem dX4_nearestTo_5 : decode cX4_nearestTo 5 = .ok (.istore 5, 2) := by decide +kernel
theorem dX4_nearestTo_7 : decode cX4_nearestTo 7 = .ok (.iload 5, 2) := by decide +kernel
theorem dX4_nearestTo_9 : decode cX4_nearestTo 9 = .ok (.aload_n 0, 1) := by decide +kernel
theorem dX4_nearestTo_10 : decode cX4_nearestTo 10 = .ok (.getfield 15, 3) := by decide +kernel
theorem dX4_nearestTo_13 : decode cX4_nearestTo 13 = .ok (.if_icmp .ge 77, 3) := by decide +kernel
theorem dX4_nearestTo_16 : decode cX4_nearestTo 16 = .ok (.aload_n 0, 1) := by decide +kernel
theorem dX4_nearestTo_17 : decode cX4_nearestTo 17 = .ok (.getfield 9, 3) := by decide +kernel
theorem dX4_nearestTo_20 : decode cX4_nearestTo 20 = .ok (.iload 5, 2) := by decide +kernel
theorem dX4_nearestTo_22 : decode cX4_nearestTo 22 = .ok (.iaload, 1) := by decide +kernel
theorem dX4_nearestTo_23 : decode cX4_nearestTo 23 = .ok (.i2l, 1) := by decide +kernel
theorem dX4_nearestTo_24 : decode cX4_nearestTo 24 = .ok (.iload_n 1, 1) := by decide +kernel
theorem dX4_nearestTo_25 : decode cX4_nearestTo 25 = .ok (.i2l, 1) := by decide +kernel
theorem dX4_nearestTo_26 : decode cX4_nearestTo 26 = .ok (.lsub, 1) := by decide +kernel
theorem dX4_nearestTo_27 : decode cX4_nearestTo 27 = .ok (.invokestatic 19, 3) := by decide +kernel
theorem dX4_nearestTo_30 : decode cX4_nearestTo 30 = .ok (.lstore 6, 2) := by decide +kernel
theorem dX4_nearestTo_32 : decode cX4_nearestTo 32 = .ok (.iload_n 2, 1) := by decide +kernel
theorem dX4_nearestTo_33 : decode cX4_nearestTo 33 = .ok (.ifCond .lt 33, 3) := by decide +kernel
theorem dX4_nearestTo_36 : decode cX4_nearestTo 36 = .ok (.lload 6, 2) := by decide +kernel
theorem dX4_nearestTo_38 : decode cX4_nearestTo 38 = .ok (.lload_n 3, 1) := by decide +kernel
theorem dX4_nearestTo_39 : decode cX4_nearestTo 39 = .ok (.lcmp, 1) := by decide +kernel
theorem dX4_nearestTo_40 : decode cX4_nearestTo 40 = .ok (.ifCond .lt 26, 3) := by decide +kernel
theorem dX4_nearestTo_43 : decode cX4_nearestTo 43 = .ok (.lload 6, 2) := by decide +kernel
theorem dX4_nearestTo_45 : decode cX4_nearestTo 45 = .ok (.lload_n 3, 1) := by decide +kernel
theorem dX4_nearestTo_46 : decode cX4_nearestTo 46 = .ok (.lcmp, 1) := by decide +kernel
theorem dX4_nearestTo_47 : decode cX4_nearestTo 47 = .ok (.ifCond .ne 23, 3) := by decide +kernel
theorem dX4_nearestTo_50 : decode cX4_nearestTo 50 = .ok (.aload_n 0, 1) := by decide +kernel
theorem dX4_nearestTo_51 : decode cX4_nearestTo 51 = .ok (.getfield 9, 3) := by decide +kernel
theorem dX4_nearestTo_54 : decode cX4_nearestTo 54 = .ok (.iload 5, 2) := by decide +kernel
theorem dX4_nearestTo_56 : decode cX4_nearestTo 56 = .ok (.iaload, 1) := by decide +kernel
theorem dX4_nearestTo_57 : decode cX4_nearestTo 57 = .ok (.aload_n 0, 1) := by decide +kernel
theorem dX4_nearestTo_58 : decode cX4_nearestTo 58 = .ok (.getfield 9, 3) := by decide +kernel
theorem dX4_nearestTo_61 : decode cX4_nearestTo 61 = .ok (.iload_n 2, 1) := by decide +kernel
theorem dX4_nearestTo_62 : decode cX4_nearestTo 62 = .ok (.iaload, 1) := by decide +kernel
theorem dX4_nearestTo_63 : decode cX4_nearestTo 63 = .ok (.if_icmp .ge 7, 3) := by decide +kernel
theorem dX4_nearestTo_66 : decode cX4_nearestTo 66 = .ok (.iconst 1, 1) := by decide +kernel
theorem dX4_nearestTo_67 : decode cX4_nearestTo 67 = .ok (.goto 4, 3) := by decide +kernel
theorem dX4_nearestTo_70 : decode cX4_nearestTo 70 = .ok (.iconst 0, 1) := by decide +kernel
theorem dX4_nearestTo_71 : decode cX4_nearestTo 71 = .ok (.istore 8, 2) := by decide +kernel
theorem dX4_nearestTo_73 : decode cX4_nearestTo 73 = .ok (.iload 8, 2) := by decide +kernel
theorem dX4_nearestTo_75 : decode cX4_nearestTo 75 = .ok (.ifCond .eq 9, 3) := by decide +kernel
theorem dX4_nearestTo_78 : decode cX4_nearestTo 78 = .ok (.iload 5, 2) := by decide +kernel
theorem dX4_nearestTo_80 : decode cX4_nearestTo 80 = .ok (.istore_n 2, 1) := by decide +kernel
theorem dX4_nearestTo_81 : decode cX4_nearestTo 81 = .ok (.lload 6, 2) := by decide +kernel
theorem dX4_nearestTo_83 : decode cX4_nearestTo 83 = .ok (.lstore_n 3, 1) := by decide +kernel
theorem dX4_nearestTo_84 : decode cX4_nearestTo 84 = .ok (.iinc 5 1, 3) := by decide +kernel
theorem dX4_nearestTo_87 : decode cX4_nearestTo 87 = .ok (.goto (-80), 3) := by decide +kernel
theorem dX4_nearestTo_90 : decode cX4_nearestTo 90 = .ok (.iload_n 2, 1) := by decide +kernel
theorem dX4_nearestTo_91 : decode cX4_nearestTo 91 = .ok (.ireturn, 1) := by decide +kernel
theorem dX4_signedRadius_0 : decode cX4_signedRadius 0 = .ok (.aload_n 0, 1) := by decide +kernel
theorem dX4_signedRadius_1 : decode cX4_signedRadius 1 = .ok (.getfield 9, 3) := by decide +kernel
theorem dX4_signedRadius_4 : decode cX4_signedRadius 4 = .ok (.iload_n 1, 1) := by decide +kernel
theorem dX4_signedRadius_5 : decode cX4_signedRadius 5 = .ok (.iconst 2, 1) := by decide +kernel
theorem dX4_signedRadius_6 : decode cX4_signedRadius 6 = .ok (.idiv, 1) := by decide +kernel
theorem dX4_signedRadius_7 : decode cX4_signedRadius 7 = .ok (.iaload, 1) := by decide +kernel
theorem dX4_signedRadius_8 : decode cX4_signedRadius 8 = .ok (.istore_n 2, 1) := by decide +kernel
theorem dX4_signedRadius_9 : decode cX4_signedRadius 9 = .ok (.iload_n 1, 1) := by decide +kernel
theorem dX4_signedRadius_10 : decode cX4_signedRadius 10 = .ok (.iconst 2, 1) := by decide +kernel
theorem dX4_signedRadius_11 : decode cX4_signedRadius 11 = .ok (.irem, 1) := by decide +kernel
theorem dX4_signedRadius_12 : decode cX4_signedRadius 12 = .ok (.ifCond .ne 8, 3) := by decide +kernel
theorem dX4_signedRadius_15 : decode cX4_signedRadius 15 = .ok (.iload_n 2, 1) := by decide +kernel
theorem dX4_signedRadius_16 : decode cX4_signedRadius 16 = .ok (.i2l, 1) := by decide +kernel
theorem dX4_signedRadius_17 : decode cX4_signedRadius 17 = .ok (.goto 6, 3) := by decide +kernel
theorem dX4_signedRadius_20 : decode cX4_signedRadius 20 = .ok (.iload_n 2, 1) := by decide +kernel
theorem dX4_signedRadius_21 : decode cX4_signedRadius 21 = .ok (.ineg, 1) := by decide +kernel
theorem dX4_signedRadius_22 : decode cX4_signedRadius 22 = .ok (.i2l, 1) := by decide +kernel
theorem dX4_signedRadius_23 : decode cX4_signedRadius 23 = .ok (.lreturn, 1) := by decide +kernel
set_option maxRecDepth 20000 in
theorem ggX5_init_X2_init : GoodIn wsX5_init wsX2_init := goodIn_r _ [25, 26, 2, 3, 27, 28, 54, 55] (by decide +kernel) (by decide +kernel)
set_option maxRecDepth 20000 in
theorem gX5_init_X2_init_n11 : GoodIn wsX5_init (wsX2_init) := ggX5_init_X2_init
set_option maxRecDepth 20000 in
theorem ggX5_init_X0_init : GoodIn wsX5_init wsX0_init := goodIn_r _ [30, 31, 2, 3, 32, 33, 27, 34, 35, 36, 61, 62, 63, 64, 65] (by decide +kernel) (by decide +kernel)
set_option maxRecDepth 20000 in
theorem gX5_init_X0_init_n18 : GoodIn wsX5_init (wsX0_init) := ggX5_init_X0_init
set_option maxRecDepth 20000 in
theorem ggX5_init_X1_init : GoodIn wsX5_init wsX1_init := goodIn_r _ [38, 39, 2, 3, 27, 40, 32, 41, 42, 43, 44, 66, 67, 68, 69, 70, 71] (by decide +kernel) (by decide +kernel)
set_option maxRecDepth 20000 in
theorem gX5_init_X1_init_n25 : GoodIn wsX5_init (wsX1_init) := ggX5_init_X1_init
set_option maxRecDepth 20000 in
theorem ggX5_init_X3_init : GoodIn wsX5_init wsX3_init := goodIn_r _ [46, 47, 2, 3, 27, 48, 49, 72, 73, 74] (by decide +kernel) (by decide +kernel)
set_option maxRecDepth 20000 in
theorem gX5_init_X3_init_n32 : GoodIn wsX5_init (wsX3_init) := ggX5_init_X3_init
set_option maxRecDepth 20000 in
theorem ggX5_init_X4_init : GoodIn wsX5_init wsX4_init := goodIn_r _ [51, 52, 2, 3, 27, 53, 75, 76] (by decide +kernel) (by decide +kernel)
set_option maxRecDepth 20000 in
theorem gX5_init_X4_init_n39 : GoodIn wsX5_init (wsX4_init) := ggX5_init_X4_init
theorem dX5_init_0 : decode cX5_init 0 = .ok (.aload_n 0, 1) := by decide +kernel
theorem dX5_init_1 : decode cX5_init 1 = .ok (.invokespecial 3, 3) := by decide +kernel
theorem dX5_init_4 : decode cX5_init 4 = .ok (.aload_n 0, 1) := by decide +kernel
theorem dX5_init_5 : decode cX5_init 5 = .ok (.new 9, 3) := by decide +kernel
theorem dX5_init_8 : decode cX5_init 8 = .ok (.dup, 1) := by decide +kernel
theorem dX5_init_9 : decode cX5_init 9 = .ok (.invokespecial 11, 3) := by decide +kernel
theorem dX5_init_12 : decode cX5_init 12 = .ok (.putfield 12, 3) := by decide +kernel
theorem dX5_init_15 : decode cX5_init 15 = .ok (.aload_n 0, 1) := by decide +kernel
theorem dX5_init_16 : decode cX5_init 16 = .ok (.new 16, 3) := by decide +kernel
theorem dX5_init_19 : decode cX5_init 19 = .ok (.dup, 1) := by decide +kernel
theorem dX5_init_20 : decode cX5_init 20 = .ok (.invokespecial 18, 3) := by decide +kernel
theorem dX5_init_23 : decode cX5_init 23 = .ok (.putfield 19, 3) := by decide +kernel
theorem dX5_init_26 : decode cX5_init 26 = .ok (.aload_n 0, 1) := by decide +kernel
theorem dX5_init_27 : decode cX5_init 27 = .ok (.new 23, 3) := by decide +kernel
theorem dX5_init_30 : decode cX5_init 30 = .ok (.dup, 1) := by decide +kernel
theorem dX5_init_31 : decode cX5_init 31 = .ok (.invokespecial 25, 3) := by decide +kernel
theorem dX5_init_34 : decode cX5_init 34 = .ok (.putfield 26, 3) := by decide +kernel
theorem dX5_init_37 : decode cX5_init 37 = .ok (.aload_n 0, 1) := by decide +kernel
theorem dX5_init_38 : decode cX5_init 38 = .ok (.new 30, 3) := by decide +kernel
theorem dX5_init_41 : decode cX5_init 41 = .ok (.dup, 1) := by decide +kernel
theorem dX5_init_42 : decode cX5_init 42 = .ok (.invokespecial 32, 3) := by decide +kernel
theorem dX5_init_45 : decode cX5_init 45 = .ok (.putfield 33, 3) := by decide +kernel
theorem dX5_init_48 : decode cX5_init 48 = .ok (.aload_n 0, 1) := by decide +kernel
theorem dX5_init_49 : decode cX5_init 49 = .ok (.new 37, 3) := by decide +kernel
theorem dX5_init_52 : decode cX5_init 52 = .ok (.dup, 1) := by decide +kernel
theorem dX5_init_53 : decode cX5_init 53 = .ok (.invokespecial 39, 3) := by decide +kernel
theorem dX5_init_56 : decode cX5_init 56 = .ok (.putfield 40, 3) := by decide +kernel
theorem dX5_init_59 : decode cX5_init 59 = .ok (.return_, 1) := by decide +kernel
set_option maxRecDepth 20000 in
theorem ggX5_append_X2_add : GoodIn wsX5_append wsX2_add := goodIn_r _ [8, 9, 10, 16, 17] (by decide +kernel) (by decide +kernel)
set_option maxRecDepth 20000 in
theorem gX5_append_X2_add : GoodIn wsX5_append (wsV RX5 52 RX2 yX2_add wsX2_add) := goodIn_app (goodIn_of _ (by decide +kernel)) ggX5_append_X2_add
theorem dX5_append_0 : decode cX5_append 0 = .ok (.iload_n 1, 1) := by decide +kernel
theorem dX5_append_1 : decode cX5_append 1 = .ok (.bipush 32, 2) := by decide +kernel
theorem dX5_append_3 : decode cX5_append 3 = .ok (.if_icmp .lt 9, 3) := by decide +kernel
theorem dX5_append_6 : decode cX5_append 6 = .ok (.iload_n 1, 1) := by decide +kernel
theorem dX5_append_7 : decode cX5_append 7 = .ok (.bipush 126, 2) := by decide +kernel
theorem dX5_append_9 : decode cX5_append 9 = .ok (.if_icmp .le 7, 3) := by decide +kernel
theorem dX5_append_12 : decode cX5_append 12 = .ok (.ldc2_w 44, 3) := by decide +kernel
theorem dX5_append_15 : decode cX5_append 15 = .ok (.lreturn, 1) := by decide +kernel
theorem dX5_append_16 : decode cX5_append 16 = .ok (.aload_n 0, 1) := by decide +kernel
theorem dX5_append_17 : decode cX5_append 17 = .ok (.getfield 12, 3) := by decide +kernel
theorem dX5_append_20 : decode cX5_append 20 = .ok (.getfield 46, 3) := by decide +kernel
theorem dX5_append_23 : decode cX5_append 23 = .ok (.bipush 28, 2) := by decide +kernel
theorem dX5_append_25 : decode cX5_append 25 = .ok (.if_icmp .ne 7, 3) := by decide +kernel
theorem dX5_append_28 : decode cX5_append 28 = .ok (.ldc2_w 50, 3) := by decide +kernel
theorem dX5_append_31 : decode cX5_append 31 = .ok (.lreturn, 1) := by decide +kernel
theorem dX5_append_32 : decode cX5_append 32 = .ok (.aload_n 0, 1) := by decide +kernel
theorem dX5_append_33 : decode cX5_append 33 = .ok (.getfield 12, 3) := by decide +kernel
theorem dX5_append_36 : decode cX5_append 36 = .ok (.iload_n 1, 1) := by decide +kernel
theorem dX5_append_37 : decode cX5_append 37 = .ok (.invokevirtual 52, 3) := by decide +kernel
theorem dX5_append_40 : decode cX5_append 40 = .ok (.aload_n 0, 1) := by decide +kernel
theorem dX5_append_41 : decode cX5_append 41 = .ok (.getfield 12, 3) := by decide +kernel
theorem dX5_append_44 : decode cX5_append 44 = .ok (.getfield 46, 3) := by decide +kernel
theorem dX5_append_47 : decode cX5_append 47 = .ok (.i2l, 1) := by decide +kernel
theorem dX5_append_48 : decode cX5_append 48 = .ok (.lreturn, 1) := by decide +kernel
set_option maxRecDepth 20000 in
theorem ggX5_clearBuffer_X2_empty : GoodIn wsX5_clearBuffer wsX2_empty := goodIn_r _ [6, 7, 13, 14] (by decide +kernel) (by decide +kernel)
set_option maxRecDepth 20000 in
theorem gX5_clearBuffer_X2_empty : GoodIn wsX5_clearBuffer (wsV RX5 56 RX2 yX2_empty wsX2_empty) := goodIn_app (goodIn_of _ (by decide +kernel)) ggX5_clearBuffer_X2_empty
theorem dX5_clearBuffer_0 : decode cX5_clearBuffer 0 = .ok (.aload_n 0, 1) := by decide +kernel
theorem dX5_clearBuffer_1 : decode cX5_clearBuffer 1 = .ok (.getfield 12, 3) := by decide +kernel
theorem dX5_clearBuffer_4 : decode cX5_clearBuffer 4 = .ok (.getfield 46, 3) := by decide +kernel
theorem dX5_clearBuffer_7 : decode cX5_clearBuffer 7 = .ok (.istore_n 1, 1) := by decide +kernel
theorem dX5_clearBuffer_8 : decode cX5_clearBuffer 8 = .ok (.aload_n 0, 1) := by decide +kernel
theorem dX5_clearBuffer_9 : decode cX5_clearBuffer 9 = .ok (.getfield 12, 3) := by decide +kernel
theorem dX5_clearBuffer_12 : decode cX5_clearBuffer 12 = .ok (.invokevirtual 56, 3) := by decide +kernel
theorem dX5_clearBuffer_15 : decode cX5_clearBuffer 15 = .ok (.iload_n 1, 1) := by decide +kernel
theorem dX5_clearBuffer_16 : decode cX5_clearBuffer 16 = .ok (.i2l, 1) := by decide +kernel
theorem dX5_clearBuffer_17 : decode cX5_clearBuffer 17 = .ok (.lreturn, 1) := by decide +kernel
set_option maxRecDepth 20000 in
theorem ggX5_errorPosition_X2_firstFault : GoodIn wsX5_errorPosition wsX2_firstFault := goodIn_r _ [6, 7, 8, 9, 10, 11, 5, 12, 13, 14, 15, 16, 17, 18, 19, 20, 21, 22, 23, 24, 25, 31, 32] (by decide +kernel) (by decide +kernel)
set_option maxRecDepth 20000 in
theorem gX5_errorPosition_X2_firstFault : GoodIn wsX5_errorPosition (wsV RX5 59 RX2 yX2_firstFault wsX2_firstFault) := goodIn_app (goodIn_of _ (by decide +kernel)) ggX5_errorPosition_X2_firstFault
theorem dX5_errorPosition_0 : decode cX5_errorPosition 0 = .ok (.aload_n 0, 1) := by decide +kernel
theorem dX5_errorPosition_1 : decode cX5_errorPosition 1 = .ok (.getfield 12, 3) := by decide +kernel
theorem dX5_errorPosition_4 : decode cX5_errorPosition 4 = .ok (.invokevirtual 59, 3) := by decide +kernel
theorem dX5_errorPosition_7 : decode cX5_errorPosition 7 = .ok (.i2l, 1) := by decide +kernel
theorem dX5_errorPosition_8 : decode cX5_errorPosition 8 = .ok (.lreturn, 1) := by decide +kernel
set_option maxRecDepth 20000 in
theorem ggX5_addGlass_X2_isComplete : GoodIn wsX5_addGlass wsX2_isComplete := goodIn_r _ [11, 12, 13, 14, 15, 10, 16, 17, 18, 19, 20, 21, 22, 23, 24, 25, 26, 27, 28, 29, 30, 31, 32, 33, 34, 82, 83] (by decide +kernel) (by decide +kernel)
set_option maxRecDepth 20000 in
theorem gX5_addGlass_X2_isComplete : GoodIn wsX5_addGlass (wsV RX5 63 RX2 yX2_isComplete wsX2_isComplete) := goodIn_app (goodIn_of _ (by decide +kernel)) ggX5_addGlass_X2_isComplete
set_option maxRecDepth 20000 in
theorem ggX5_addGlass_X2_number : GoodIn wsX5_addGlass wsX2_number := goodIn_r _ [38, 13, 14, 15, 10, 16, 12, 17, 18, 19, 20, 21, 22, 23, 24, 25, 26, 27, 39, 40, 41, 42, 82, 83] (by decide +kernel) (by decide +kernel)
set_option maxRecDepth 20000 in
theorem gX5_addGlass_X2_number : GoodIn wsX5_addGlass (wsV RX5 69 RX2 yX2_number wsX2_number) := goodIn_app (goodIn_of _ (by decide +kernel)) ggX5_addGlass_X2_number
set_option maxRecDepth 20000 in
theorem ggX5_addGlass_X5_areGlassIndices : GoodIn wsX5_addGlass wsX5_areGlassIndices := goodIn_r _ [46, 47, 48] (by decide +kernel) (by decide +kernel)
set_option maxRecDepth 20000 in
theorem gX5_addGlass_X5_areGlassIndices : GoodIn wsX5_addGlass (va_wsS RX5 73 yX5_areGlassIndices wsX5_areGlassIndices) := goodIn_app (goodIn_of _ (by decide +kernel)) ggX5_addGlass_X5_areGlassIndices
set_option maxRecDepth 20000 in
theorem ggX5_addGlass_X2_nameKey : GoodIn wsX5_addGlass wsX2_nameKey := goodIn_r _ [52, 53, 21, 13, 14, 15, 10, 16, 12, 17, 18, 19, 20, 22, 23, 24, 25, 26, 27, 82, 83] (by decide +kernel) (by decide +kernel)
set_option maxRecDepth 20000 in
theorem gX5_addGlass_X2_nameKey : GoodIn wsX5_addGlass (wsV RX5 80 RX2 yX2_nameKey wsX2_nameKey) := goodIn_app (goodIn_of _ (by decide +kernel)) ggX5_addGlass_X2_nameKey
set_option maxRecDepth 20000 in
theorem ggX5_addGlass_X0_hasName : GoodIn wsX5_addGlass wsX0_hasName := goodIn_r _ [58, 59, 60, 77, 78, 79, 80, 81] (by decide +kernel) (by decide +kernel)
set_option maxRecDepth 20000 in
theorem gX5_addGlass_X0_hasName : GoodIn wsX5_addGlass (wsV RX5 84 RX0 yX0_hasName wsX0_hasName) := goodIn_app (goodIn_of _ (by decide +kernel)) ggX5_addGlass_X0_hasName
set_option maxRecDepth 20000 in
theorem ggX5_addGlass_X0_add : GoodIn wsX5_addGlass wsX0_add := goodIn_r _ [64, 59, 60, 65, 66, 67, 77, 78, 79, 80, 81] (by decide +kernel) (by decide +kernel)
set_option maxRecDepth 20000 in
theorem gX5_addGlass_X0_add : GoodIn wsX5_addGlass (wsV RX5 90 RX0 yX0_add wsX0_add) := goodIn_app (goodIn_of _ (by decide +kernel)) ggX5_addGlass_X0_add
set_option maxRecDepth 20000 in
theorem ggX5_addGlass_X2_empty : GoodIn wsX5_addGlass wsX2_empty := goodIn_r _ [71, 12, 82, 83] (by decide +kernel) (by decide +kernel)
set_option maxRecDepth 20000 in
theorem gX5_addGlass_X2_empty : GoodIn wsX5_addGlass (wsV RX5 56 RX2 yX2_empty wsX2_empty) := goodIn_app (goodIn_of _ (by decide +kernel)) ggX5_addGlass_X2_empty
theorem dX5_addGlass_0 : decode cX5_addGlass 0 = .ok (.aload_n 0, 1) := by decide +kernel
theorem dX5_addGlass_1 : decode cX5_addGlass 1 = .ok (.getfield 12, 3) := by decide +kernel
theorem dX5_addGlass_4 : decode cX5_addGlass 4 = .ok (.invokevirtual 63, 3) := by decide +kernel
theorem dX5_addGlass_7 : decode cX5_addGlass 7 = .ok (.ifCond .ne 7, 3) := by decide +kernel
theorem dX5_addGlass_10 : decode cX5_addGlass 10 = .ok (.ldc2_w 67, 3) := by decide +kernel
theorem dX5_addGlass_13 : decode cX5_addGlass 13 = .ok (.lreturn, 1) := by decide +kernel
theorem dX5_addGlass_14 : decode cX5_addGlass 14 = .ok (.aload_n 0, 1) := by decide +kernel
theorem dX5_addGlass_15 : decode cX5_addGlass 15 = .ok (.getfield 12, 3) := by decide +kernel
theorem dX5_addGlass_18 : decode cX5_addGlass 18 = .ok (.iconst 0, 1) := by decide +kernel
theorem dX5_addGlass_19 : decode cX5_addGlass 19 = .ok (.invokevirtual 69, 3) := by decide +kernel
theorem dX5_addGlass_22 : decode cX5_addGlass 22 = .ok (.istore_n 1, 1) := by decide +kernel
theorem dX5_addGlass_23 : decode cX5_addGlass 23 = .ok (.aload_n 0, 1) := by decide +kernel
theorem dX5_addGlass_24 : decode cX5_addGlass 24 = .ok (.getfield 12, 3) := by decide +kernel
theorem dX5_addGlass_27 : decode cX5_addGlass 27 = .ok (.iconst 1, 1) := by decide +kernel
theorem dX5_addGlass_28 : decode cX5_addGlass 28 = .ok (.invokevirtual 69, 3) := by decide +kernel
theorem dX5_addGlass_31 : decode cX5_addGlass 31 = .ok (.istore_n 2, 1) := by decide +kernel
theorem dX5_addGlass_32 : decode cX5_addGlass 32 = .ok (.aload_n 0, 1) := by decide +kernel
theorem dX5_addGlass_33 : decode cX5_addGlass 33 = .ok (.getfield 12, 3) := by decide +kernel
theorem dX5_addGlass_36 : decode cX5_addGlass 36 = .ok (.iconst 2, 1) := by decide +kernel
theorem dX5_addGlass_37 : decode cX5_addGlass 37 = .ok (.invokevirtual 69, 3) := by decide +kernel
theorem dX5_addGlass_40 : decode cX5_addGlass 40 = .ok (.istore_n 3, 1) := by decide +kernel
theorem dX5_addGlass_41 : decode cX5_addGlass 41 = .ok (.iload_n 1, 1) := by decide +kernel
theorem dX5_addGlass_42 : decode cX5_addGlass 42 = .ok (.iload_n 2, 1) := by decide +kernel
theorem dX5_addGlass_43 : decode cX5_addGlass 43 = .ok (.iload_n 3, 1) := by decide +kernel
theorem dX5_addGlass_44 : decode cX5_addGlass 44 = .ok (.invokestatic 73, 3) := by decide +kernel
theorem dX5_addGlass_47 : decode cX5_addGlass 47 = .ok (.ifCond .ne 7, 3) := by decide +kernel
theorem dX5_addGlass_50 : decode cX5_addGlass 50 = .ok (.ldc2_w 44, 3) := by decide +kernel
theorem dX5_addGlass_53 : decode cX5_addGlass 53 = .ok (.lreturn, 1) := by decide +kernel
theorem dX5_addGlass_54 : decode cX5_addGlass 54 = .ok (.aload_n 0, 1) := by decide +kernel
theorem dX5_addGlass_55 : decode cX5_addGlass 55 = .ok (.getfield 19, 3) := by decide +kernel
theorem dX5_addGlass_58 : decode cX5_addGlass 58 = .ok (.getfield 77, 3) := by decide +kernel
theorem dX5_addGlass_61 : decode cX5_addGlass 61 = .ok (.bipush 20, 2) := by decide +kernel
theorem dX5_addGlass_63 : decode cX5_addGlass 63 = .ok (.if_icmp .ne 7, 3) := by decide +kernel
theorem dX5_addGlass_66 : decode cX5_addGlass 66 = .ok (.ldc2_w 50, 3) := by decide +kernel
theorem dX5_addGlass_69 : decode cX5_addGlass 69 = .ok (.lreturn, 1) := by decide +kernel
theorem dX5_addGlass_70 : decode cX5_addGlass 70 = .ok (.aload_n 0, 1) := by decide +kernel
theorem dX5_addGlass_71 : decode cX5_addGlass 71 = .ok (.getfield 12, 3) := by decide +kernel
theorem dX5_addGlass_74 : decode cX5_addGlass 74 = .ok (.invokevirtual 80, 3) := by decide +kernel
theorem dX5_addGlass_77 : decode cX5_addGlass 77 = .ok (.lstore 4, 2) := by decide +kernel
theorem dX5_addGlass_79 : decode cX5_addGlass 79 = .ok (.aload_n 0, 1) := by decide +kernel
theorem dX5_addGlass_80 : decode cX5_addGlass 80 = .ok (.getfield 19, 3) := by decide +kernel
theorem dX5_addGlass_83 : decode cX5_addGlass 83 = .ok (.lload 4, 2) := by decide +kernel
theorem dX5_addGlass_85 : decode cX5_addGlass 85 = .ok (.invokevirtual 84, 3) := by decide +kernel
theorem dX5_addGlass_88 : decode cX5_addGlass 88 = .ok (.ifCond .eq 7, 3) := by decide +kernel
theorem dX5_addGlass_91 : decode cX5_addGlass 91 = .ok (.ldc2_w 88, 3) := by decide +kernel
theorem dX5_addGlass_94 : decode cX5_addGlass 94 = .ok (.lreturn, 1) := by decide +kernel
theorem dX5_addGlass_95 : decode cX5_addGlass 95 = .ok (.aload_n 0, 1) := by decide +kernel
theorem dX5_addGlass_96 : decode cX5_addGlass 96 = .ok (.getfield 19, 3) := by decide +kernel
theorem dX5_addGlass_99 : decode cX5_addGlass 99 = .ok (.lload 4, 2) := by decide +kernel
theorem dX5_addGlass_101 : decode cX5_addGlass 101 = .ok (.iload_n 1, 1) := by decide +kernel
theorem dX5_addGlass_102 : decode cX5_addGlass 102 = .ok (.iload_n 2, 1) := by decide +kernel
theorem dX5_addGlass_103 : decode cX5_addGlass 103 = .ok (.iload_n 3, 1) := by decide +kernel
theorem dX5_addGlass_104 : decode cX5_addGlass 104 = .ok (.invokevirtual 90, 3) := by decide +kernel
theorem dX5_addGlass_107 : decode cX5_addGlass 107 = .ok (.aload_n 0, 1) := by decide +kernel
theorem dX5_addGlass_108 : decode cX5_addGlass 108 = .ok (.getfield 12, 3) := by decide +kernel
theorem dX5_addGlass_111 : decode cX5_addGlass 111 = .ok (.invokevirtual 56, 3) := by decide +kernel
theorem dX5_addGlass_114 : decode cX5_addGlass 114 = .ok (.aload_n 0, 1) := by decide +kernel
theorem dX5_addGlass_115 : decode cX5_addGlass 115 = .ok (.getfield 19, 3) := by decide +kernel
theorem dX5_addGlass_118 : decode cX5_addGlass 118 = .ok (.getfield 77, 3) := by decide +kernel
theorem dX5_addGlass_121 : decode cX5_addGlass 121 = .ok (.iconst 1, 1) := by decide +kernel
theorem dX5_addGlass_122 : decode cX5_addGlass 122 = .ok (.isub, 1) := by decide +kernel
theorem dX5_addGlass_123 : decode cX5_addGlass 123 = .ok (.i2l, 1) := by decide +kernel
theorem dX5_addGlass_124 : decode cX5_addGlass 124 = .ok (.lreturn, 1) := by decide +kernel
set_option maxRecDepth 20000 in
theorem ggX5_removeGlass_X0_has : GoodIn wsX5_removeGlass wsX0_has := goodIn_r _ [9, 10, 36, 37, 38, 39, 40] (by decide +kernel) (by decide +kernel)
set_option maxRecDepth 20000 in
theorem gX5_removeGlass_X0_has : GoodIn wsX5_removeGlass (wsV RX5 93 RX0 yX0_has wsX0_has) := goodIn_app (goodIn_of _ (by decide +kernel)) ggX5_removeGlass_X0_has
set_option maxRecDepth 20000 in
theorem ggX5_removeGlass_X3_uses : GoodIn wsX5_removeGlass wsX3_uses := goodIn_r _ [15, 16, 17, 41, 42, 43] (by decide +kernel) (by decide +kernel)
set_option maxRecDepth 20000 in
theorem gX5_removeGlass_X3_uses : GoodIn wsX5_removeGlass (wsV RX5 99 RX3 yX3_uses wsX3_uses) := goodIn_app (goodIn_of _ (by decide +kernel)) ggX5_removeGlass_X3_uses
set_option maxRecDepth 20000 in
theorem ggX5_removeGlass_X0_remove : GoodIn wsX5_removeGlass wsX0_remove := goodIn_r _ [21, 10, 22, 23, 24, 25, 26, 6, 7, 8, 9, 36, 37, 38, 39, 40] (by decide +kernel) (by decide +kernel)
set_option maxRecDepth 20000 in
theorem gX5_removeGlass_X0_remove : GoodIn wsX5_removeGlass (wsV RX5 104 RX0 yX0_remove wsX0_remove) := goodIn_app (goodIn_of _ (by decide +kernel)) ggX5_removeGlass_X0_remove
set_option maxRecDepth 20000 in
theorem ggX5_removeGlass_X3_closeGapAt : GoodIn wsX5_removeGlass wsX3_closeGapAt := goodIn_r _ [30, 16, 17, 41, 42, 43] (by decide +kernel) (by decide +kernel)
set_option maxRecDepth 20000 in
theorem gX5_removeGlass_X3_closeGapAt : GoodIn wsX5_removeGlass (wsV RX5 107 RX3 yX3_closeGapAt wsX3_closeGapAt) := goodIn_app (goodIn_of _ (by decide +kernel)) ggX5_removeGlass_X3_closeGapAt
theorem dX5_removeGlass_0 : decode cX5_removeGlass 0 = .ok (.aload_n 0, 1) := by decide +kernel
theorem dX5_removeGlass_1 : decode cX5_removeGlass 1 = .ok (.getfield 19, 3) := by decide +kernel
theorem dX5_removeGlass_4 : decode cX5_removeGlass 4 = .ok (.iload_n 1, 1) := by decide +kernel
theorem dX5_removeGlass_5 : decode cX5_removeGlass 5 = .ok (.invokevirtual 93, 3) := by decide +kernel
theorem dX5_removeGlass_8 : decode cX5_removeGlass 8 = .ok (.ifCond .ne 7, 3) := by decide +kernel
theorem dX5_removeGlass_11 : decode cX5_removeGlass 11 = .ok (.ldc2_w 97, 3) := by decide +kernel
theorem dX5_removeGlass_14 : decode cX5_removeGlass 14 = .ok (.lreturn, 1) := by decide +kernel
theorem dX5_removeGlass_15 : decode cX5_removeGlass 15 = .ok (.aload_n 0, 1) := by decide +kernel
theorem dX5_removeGlass_16 : decode cX5_removeGlass 16 = .ok (.getfield 33, 3) := by decide +kernel
theorem dX5_removeGlass_19 : decode cX5_removeGlass 19 = .ok (.iload_n 1, 1) := by decide +kernel
theorem dX5_removeGlass_20 : decode cX5_removeGlass 20 = .ok (.invokevirtual 99, 3) := by decide +kernel
theorem dX5_removeGlass_23 : decode cX5_removeGlass 23 = .ok (.ifCond .eq 7, 3) := by decide +kernel
theorem dX5_removeGlass_26 : decode cX5_removeGlass 26 = .ok (.ldc2_w 102, 3) := by decide +kernel
theorem dX5_removeGlass_29 : decode cX5_removeGlass 29 = .ok (.lreturn, 1) := by decide +kernel
theorem dX5_removeGlass_30 : decode cX5_removeGlass 30 = .ok (.aload_n 0, 1) := by decide +kernel
theorem dX5_removeGlass_31 : decode cX5_removeGlass 31 = .ok (.getfield 19, 3) := by decide +kernel
theorem dX5_removeGlass_34 : decode cX5_removeGlass 34 = .ok (.iload_n 1, 1) := by decide +kernel
theorem dX5_removeGlass_35 : decode cX5_removeGlass 35 = .ok (.invokevirtual 104, 3) := by decide +kernel
theorem dX5_removeGlass_38 : decode cX5_removeGlass 38 = .ok (.aload_n 0, 1) := by decide +kernel
theorem dX5_removeGlass_39 : decode cX5_removeGlass 39 = .ok (.getfield 33, 3) := by decide +kernel
theorem dX5_removeGlass_42 : decode cX5_removeGlass 42 = .ok (.iload_n 1, 1) := by decide +kernel
theorem dX5_removeGlass_43 : decode cX5_removeGlass 43 = .ok (.invokevirtual 107, 3) := by decide +kernel
theorem dX5_removeGlass_46 : decode cX5_removeGlass 46 = .ok (.aload_n 0, 1) := by decide +kernel
theorem dX5_removeGlass_47 : decode cX5_removeGlass 47 = .ok (.getfield 19, 3) := by decide +kernel
theorem dX5_removeGlass_50 : decode cX5_removeGlass 50 = .ok (.getfield 77, 3) := by decide +kernel
theorem dX5_removeGlass_53 : decode cX5_removeGlass 53 = .ok (.i2l, 1) := by decide +kernel
theorem dX5_removeGlass_54 : decode cX5_removeGlass 54 = .ok (.lreturn, 1) := by decide +kernel
theorem dX5_glassCount_0 : decode cX5_glassCount 0 = .ok (.aload_n 0, 1) := by decide +kernel
theorem dX5_glassCount_1 : decode cX5_glassCount 1 = .ok (.getfield 19, 3) := by decide +kernel
theorem dX5_glassCount_4 : decode cX5_glassCount 4 = .ok (.getfield 77, 3) := by decide +kernel
theorem dX5_glassCount_7 : decode cX5_glassCount 7 = .ok (.i2l, 1) := by decide +kernel
theorem dX5_glassCount_8 : decode cX5_glassCount 8 = .ok (.lreturn, 1) := by decide +kernel
set_option maxRecDepth 20000 in
theorem ggX5_index_X0_has : GoodIn wsX5_index wsX0_has := goodIn_r _ [8, 9, 26, 27, 28, 29, 30] (by decide +kernel) (by decide +kernel)
set_option maxRecDepth 20000 in
theorem gX5_index_X0_has : GoodIn wsX5_index (wsV RX5 93 RX0 yX0_has wsX0_has) := goodIn_app (goodIn_of _ (by decide +kernel)) ggX5_index_X0_has
set_option maxRecDepth 20000 in
theorem ggX5_index_X5_isColour : GoodIn wsX5_index wsX5_isColour := goodIn_r _ [13] (by decide +kernel) (by decide +kernel)
set_option maxRecDepth 20000 in
theorem gX5_index_X5_isColour : GoodIn wsX5_index (va_wsS RX5 110 yX5_isColour wsX5_isColour) := goodIn_app (goodIn_of _ (by decide +kernel)) ggX5_index_X5_isColour
set_option maxRecDepth 20000 in
theorem ggX5_index_X0_indexFor : GoodIn wsX5_index wsX0_indexFor := goodIn_r _ [17, 18, 19, 20, 26, 27, 28, 29, 30] (by decide +kernel) (by decide +kernel)
set_option maxRecDepth 20000 in
theorem gX5_index_X0_indexFor : GoodIn wsX5_index (wsV RX5 113 RX0 yX0_indexFor wsX0_indexFor) := goodIn_app (goodIn_of _ (by decide +kernel)) ggX5_index_X0_indexFor
theorem dX5_index_0 : decode cX5_index 0 = .ok (.aload_n 0, 1) := by decide +kernel
theorem dX5_index_1 : decode cX5_index 1 = .ok (.getfield 19, 3) := by decide +kernel
theorem dX5_index_4 : decode cX5_index 4 = .ok (.iload_n 1, 1) := by decide +kernel
theorem dX5_index_5 : decode cX5_index 5 = .ok (.invokevirtual 93, 3) := by decide +kernel
theorem dX5_index_8 : decode cX5_index 8 = .ok (.ifCond .ne 7, 3) := by decide +kernel
theorem dX5_index_11 : decode cX5_index 11 = .ok (.ldc2_w 97, 3) := by decide +kernel
theorem dX5_index_14 : decode cX5_index 14 = .ok (.lreturn, 1) := by decide +kernel
theorem dX5_index_15 : decode cX5_index 15 = .ok (.iload_n 2, 1) := by decide +kernel
theorem dX5_index_16 : decode cX5_index 16 = .ok (.invokestatic 110, 3) := by decide +kernel
theorem dX5_index_19 : decode cX5_index 19 = .ok (.ifCond .ne 7, 3) := by decide +kernel
theorem dX5_index_22 : decode cX5_index 22 = .ok (.ldc2_w 44, 3) := by decide +kernel
theorem dX5_index_25 : decode cX5_index 25 = .ok (.lreturn, 1) := by decide +kernel
theorem dX5_index_26 : decode cX5_index 26 = .ok (.aload_n 0, 1) := by decide +kernel
theorem dX5_index_27 : decode cX5_index 27 = .ok (.getfield 19, 3) := by decide +kernel
theorem dX5_index_30 : decode cX5_index 30 = .ok (.iload_n 1, 1) := by decide +kernel
theorem dX5_index_31 : decode cX5_index 31 = .ok (.iload_n 2, 1) := by decide +kernel
theorem dX5_index_32 : decode cX5_index 32 = .ok (.invokevirtual 113, 3) := by decide +kernel
theorem dX5_index_35 : decode cX5_index 35 = .ok (.lreturn, 1) := by decide +kernel
set_option maxRecDepth 20000 in
theorem ggX5_placeByName_X0_has : GoodIn wsX5_placeByName wsX0_has := goodIn_r _ [7, 8, 19, 20, 21, 22, 23] (by decide +kernel) (by decide +kernel)
set_option maxRecDepth 20000 in
theorem gX5_placeByName_X0_has : GoodIn wsX5_placeByName (wsV RX5 93 RX0 yX0_has wsX0_has) := goodIn_app (goodIn_of _ (by decide +kernel)) ggX5_placeByName_X0_has
set_option maxRecDepth 20000 in
theorem ggX5_placeByName_X0_namesBefore : GoodIn wsX5_placeByName wsX0_namesBefore := goodIn_r _ [12, 8, 13, 19, 20, 21, 22, 23] (by decide +kernel) (by decide +kernel)
set_option maxRecDepth 20000 in
theorem gX5_placeByName_X0_namesBefore : GoodIn wsX5_placeByName (wsV RX5 117 RX0 yX0_namesBefore wsX0_namesBefore) := goodIn_app (goodIn_of _ (by decide +kernel)) ggX5_placeByName_X0_namesBefore
theorem dX5_placeByName_0 : decode cX5_placeByName 0 = .ok (.aload_n 0, 1) := by decide +kernel
theorem dX5_placeByName_1 : decode cX5_placeByName 1 = .ok (.getfield 19, 3) := by decide +kernel
theorem dX5_placeByName_4 : decode cX5_placeByName 4 = .ok (.iload_n 1, 1) := by decide +kernel
theorem dX5_placeByName_5 : decode cX5_placeByName 5 = .ok (.invokevirtual 93, 3) := by decide +kernel
theorem dX5_placeByName_8 : decode cX5_placeByName 8 = .ok (.ifCond .eq 15, 3) := by decide +kernel
theorem dX5_placeByName_11 : decode cX5_placeByName 11 = .ok (.aload_n 0, 1) := by decide +kernel
theorem dX5_placeByName_12 : decode cX5_placeByName 12 = .ok (.getfield 19, 3) := by decide +kernel
theorem dX5_placeByName_15 : decode cX5_placeByName 15 = .ok (.iload_n 1, 1) := by decide +kernel
theorem dX5_placeByName_16 : decode cX5_placeByName 16 = .ok (.invokevirtual 117, 3) := by decide +kernel
theorem dX5_placeByName_19 : decode cX5_placeByName 19 = .ok (.i2l, 1) := by decide +kernel
theorem dX5_placeByName_20 : decode cX5_placeByName 20 = .ok (.goto 6, 3) := by decide +kernel
theorem dX5_placeByName_23 : decode cX5_placeByName 23 = .ok (.ldc2_w 97, 3) := by decide +kernel
theorem dX5_placeByName_26 : decode cX5_placeByName 26 = .ok (.lreturn, 1) := by decide +kernel
set_option maxRecDepth 20000 in
theorem ggX5_abbe_X0_has : GoodIn wsX5_abbe wsX0_has := goodIn_r _ [7, 8, 38, 39, 40, 41, 42] (by decide +kernel) (by decide +kernel)
set_option maxRecDepth 20000 in
theorem gX5_abbe_X0_has : GoodIn wsX5_abbe (wsV RX5 93 RX0 yX0_has wsX0_has) := goodIn_app (goodIn_of _ (by decide +kernel)) ggX5_abbe_X0_has
set_option maxRecDepth 20000 in
theorem ggX5_abbe_X0_abbeNumber : GoodIn wsX5_abbe wsX0_abbeNumber := goodIn_r _ [12, 13, 14, 15, 16, 6, 17, 18, 19, 20, 21, 22, 23, 24, 25, 26, 27, 28, 29, 30, 31, 32, 38, 39, 40, 41, 42] (by decide +kernel) (by decide +kernel)
set_option maxRecDepth 20000 in
theorem gX5_abbe_X0_abbeNumber : GoodIn wsX5_abbe (wsV RX5 120 RX0 yX0_abbeNumber wsX0_abbeNumber) := goodIn_app (goodIn_of _ (by decide +kernel)) ggX5_abbe_X0_abbeNumber
theorem dX5_abbe_0 : decode cX5_abbe 0 = .ok (.aload_n 0, 1) := by decide +kernel
theorem dX5_abbe_1 : decode cX5_abbe 1 = .ok (.getfield 19, 3) := by decide +kernel
theorem dX5_abbe_4 : decode cX5_abbe 4 = .ok (.iload_n 1, 1) := by decide +kernel
theorem dX5_abbe_5 : decode cX5_abbe 5 = .ok (.invokevirtual 93, 3) := by decide +kernel
theorem dX5_abbe_8 : decode cX5_abbe 8 = .ok (.ifCond .eq 14, 3) := by decide +kernel
theorem dX5_abbe_11 : decode cX5_abbe 11 = .ok (.aload_n 0, 1) := by decide +kernel
theorem dX5_abbe_12 : decode cX5_abbe 12 = .ok (.getfield 19, 3) := by decide +kernel
theorem dX5_abbe_15 : decode cX5_abbe 15 = .ok (.iload_n 1, 1) := by decide +kernel
theorem dX5_abbe_16 : decode cX5_abbe 16 = .ok (.invokevirtual 120, 3) := by decide +kernel
theorem dX5_abbe_19 : decode cX5_abbe 19 = .ok (.goto 6, 3) := by decide +kernel
theorem dX5_abbe_22 : decode cX5_abbe 22 = .ok (.ldc2_w 97, 3) := by decide +kernel
theorem dX5_abbe_25 : decode cX5_abbe 25 = .ok (.lreturn, 1) := by decide +kernel
set_option maxRecDepth 20000 in
theorem ggX5_partial_X0_has : GoodIn wsX5_partial wsX0_has := goodIn_r _ [8, 9, 34, 35, 36, 37, 38] (by decide +kernel) (by decide +kernel)
set_option maxRecDepth 20000 in
theorem gX5_partial_X0_has : GoodIn wsX5_partial (wsV RX5 93 RX0 yX0_has wsX0_has) := goodIn_app (goodIn_of _ (by decide +kernel)) ggX5_partial_X0_has
set_option maxRecDepth 20000 in
theorem ggX5_partial_X0_valueD : GoodIn wsX5_partial wsX0_valueD := goodIn_r _ [13, 14, 15, 34, 35, 36, 37, 38] (by decide +kernel) (by decide +kernel)
set_option maxRecDepth 20000 in
theorem gX5_partial_X0_valueD : GoodIn wsX5_partial (wsV RX5 126 RX0 yX0_valueD wsX0_valueD) := goodIn_app (goodIn_of _ (by decide +kernel)) ggX5_partial_X0_valueD
set_option maxRecDepth 20000 in
theorem ggX5_partial_X0_valueB : GoodIn wsX5_partial wsX0_valueB := goodIn_r _ [19, 14, 20, 34, 35, 36, 37, 38] (by decide +kernel) (by decide +kernel)
set_option maxRecDepth 20000 in
theorem gX5_partial_X0_valueB : GoodIn wsX5_partial (wsV RX5 129 RX0 yX0_valueB wsX0_valueB) := goodIn_app (goodIn_of _ (by decide +kernel)) ggX5_partial_X0_valueB
set_option maxRecDepth 20000 in
theorem ggX5_partial_X5_floorQuotient : GoodIn wsX5_partial wsX5_floorQuotient := goodIn_r _ [24, 25, 26, 27, 28] (by decide +kernel) (by decide +kernel)
set_option maxRecDepth 20000 in
theorem gX5_partial_X5_floorQuotient : GoodIn wsX5_partial (va_wsS RX5 132 yX5_floorQuotient wsX5_floorQuotient) := goodIn_app (goodIn_of _ (by decide +kernel)) ggX5_partial_X5_floorQuotient
theorem dX5_partial_0 : decode cX5_partial 0 = .ok (.aload_n 0, 1) := by decide +kernel
theorem dX5_partial_1 : decode cX5_partial 1 = .ok (.getfield 19, 3) := by decide +kernel
theorem dX5_partial_4 : decode cX5_partial 4 = .ok (.iload_n 1, 1) := by decide +kernel
theorem dX5_partial_5 : decode cX5_partial 5 = .ok (.invokevirtual 93, 3) := by decide +kernel
theorem dX5_partial_8 : decode cX5_partial 8 = .ok (.ifCond .ne 7, 3) := by decide +kernel
theorem dX5_partial_11 : decode cX5_partial 11 = .ok (.ldc2_w 97, 3) := by decide +kernel
theorem dX5_partial_14 : decode cX5_partial 14 = .ok (.lreturn, 1) := by decide +kernel
theorem dX5_partial_15 : decode cX5_partial 15 = .ok (.ldc2_w 124, 3) := by decide +kernel
theorem dX5_partial_18 : decode cX5_partial 18 = .ok (.aload_n 0, 1) := by decide +kernel
theorem dX5_partial_19 : decode cX5_partial 19 = .ok (.getfield 19, 3) := by decide +kernel
theorem dX5_partial_22 : decode cX5_partial 22 = .ok (.iload_n 1, 1) := by decide +kernel
theorem dX5_partial_23 : decode cX5_partial 23 = .ok (.invokevirtual 126, 3) := by decide +kernel
theorem dX5_partial_26 : decode cX5_partial 26 = .ok (.lmul, 1) := by decide +kernel
theorem dX5_partial_27 : decode cX5_partial 27 = .ok (.aload_n 0, 1) := by decide +kernel
theorem dX5_partial_28 : decode cX5_partial 28 = .ok (.getfield 19, 3) := by decide +kernel
theorem dX5_partial_31 : decode cX5_partial 31 = .ok (.iload_n 1, 1) := by decide +kernel
theorem dX5_partial_32 : decode cX5_partial 32 = .ok (.invokevirtual 129, 3) := by decide +kernel
theorem dX5_partial_35 : decode cX5_partial 35 = .ok (.invokestatic 132, 3) := by decide +kernel
theorem dX5_partial_38 : decode cX5_partial 38 = .ok (.lreturn, 1) := by decide +kernel
set_option maxRecDepth 20000 in
theorem ggX5_glassWithAbbe_X0_leastAbbeFrom : GoodIn wsX5_glassWithAbbe wsX0_leastAbbeFrom := goodIn_r _ [7, 8, 9, 10, 11, 6, 12, 13, 14, 15, 16, 17, 18, 19, 20, 21, 22, 23, 24, 25, 26, 27, 28, 29, 30, 31, 32, 38, 39, 40, 41, 42] (by decide +kernel) (by decide +kernel)
set_option maxRecDepth 20000 in
theorem gX5_glassWithAbbe_X0_leastAbbeFrom : GoodIn wsX5_glassWithAbbe (wsV RX5 136 RX0 yX0_leastAbbeFrom wsX0_leastAbbeFrom) := goodIn_app (goodIn_of _ (by decide +kernel)) ggX5_glassWithAbbe_X0_leastAbbeFrom
theorem dX5_glassWithAbbe_0 : decode cX5_glassWithAbbe 0 = .ok (.aload_n 0, 1) := by decide +kernel
theorem dX5_glassWithAbbe_1 : decode cX5_glassWithAbbe 1 = .ok (.getfield 19, 3) := by decide +kernel
theorem dX5_glassWithAbbe_4 : decode cX5_glassWithAbbe 4 = .ok (.iload_n 1, 1) := by decide +kernel
theorem dX5_glassWithAbbe_5 : decode cX5_glassWithAbbe 5 = .ok (.invokevirtual 136, 3) := by decide +kernel
theorem dX5_glassWithAbbe_8 : decode cX5_glassWithAbbe 8 = .ok (.istore_n 2, 1) := by decide +kernel
theorem dX5_glassWithAbbe_9 : decode cX5_glassWithAbbe 9 = .ok (.iload_n 2, 1) := by decide +kernel
theorem dX5_glassWithAbbe_10 : decode cX5_glassWithAbbe 10 = .ok (.ifCond .ge 9, 3) := by decide +kernel
theorem dX5_glassWithAbbe_13 : decode cX5_glassWithAbbe 13 = .ok (.ldc2_w 139, 3) := by decide +kernel
theorem dX5_glassWithAbbe_16 : decode cX5_glassWithAbbe 16 = .ok (.goto 5, 3) := by decide +kernel
theorem dX5_glassWithAbbe_19 : decode cX5_glassWithAbbe 19 = .ok (.iload_n 2, 1) := by decide +kernel
theorem dX5_glassWithAbbe_20 : decode cX5_glassWithAbbe 20 = .ok (.i2l, 1) := by decide +kernel
theorem dX5_glassWithAbbe_21 : decode cX5_glassWithAbbe 21 = .ok (.lreturn, 1) := by decide +kernel
set_option maxRecDepth 20000 in
theorem ggX5_doubletPower_X0_has : GoodIn wsX5_doubletPower wsX0_has := goodIn_r _ [10, 11, 46, 47, 48, 49, 50] (by decide +kernel) (by decide +kernel)
set_option maxRecDepth 20000 in
theorem gX5_doubletPower_X0_has : GoodIn wsX5_doubletPower (wsV RX5 93 RX0 yX0_has wsX0_has) := goodIn_app (goodIn_of _ (by decide +kernel)) ggX5_doubletPower_X0_has
set_option maxRecDepth 20000 in
theorem ggX5_doubletPower_X5_isDesignPower : GoodIn wsX5_doubletPower wsX5_isDesignPower := goodIn_r _ [15] (by decide +kernel) (by decide +kernel)
set_option maxRecDepth 20000 in
theorem gX5_doubletPower_X5_isDesignPower : GoodIn wsX5_doubletPower (va_wsS RX5 141 yX5_isDesignPower wsX5_isDesignPower) := goodIn_app (goodIn_of _ (by decide +kernel)) ggX5_doubletPower_X5_isDesignPower
set_option maxRecDepth 20000 in
theorem ggX5_doubletPower_X0_valueE : GoodIn wsX5_doubletPower wsX0_valueE := goodIn_r _ [19, 20, 21, 22, 9, 23, 24, 25, 26, 27, 28, 29, 30, 31, 46, 47, 48, 49, 50] (by decide +kernel) (by decide +kernel)
set_option maxRecDepth 20000 in
theorem gX5_doubletPower_X0_valueE : GoodIn wsX5_doubletPower (wsV RX5 144 RX0 yX0_valueE wsX0_valueE) := goodIn_app (goodIn_of _ (by decide +kernel)) ggX5_doubletPower_X0_valueE
set_option maxRecDepth 20000 in
theorem ggX5_doubletPower_X0_valueA : GoodIn wsX5_doubletPower wsX0_valueA := goodIn_r _ [23, 24, 25, 46, 47, 48, 49, 50] (by decide +kernel) (by decide +kernel)
set_option maxRecDepth 20000 in
theorem gX5_doubletPower_X0_valueA : GoodIn wsX5_doubletPower (wsV RX5 147 RX0 yX0_valueA wsX0_valueA) := goodIn_app (goodIn_of _ (by decide +kernel)) ggX5_doubletPower_X0_valueA
set_option maxRecDepth 20000 in
theorem ggX5_doubletPower_X0_valueB : GoodIn wsX5_doubletPower wsX0_valueB := goodIn_r _ [29, 30, 31, 46, 47, 48, 49, 50] (by decide +kernel) (by decide +kernel)
set_option maxRecDepth 20000 in
theorem gX5_doubletPower_X0_valueB : GoodIn wsX5_doubletPower (wsV RX5 129 RX0 yX0_valueB wsX0_valueB) := goodIn_app (goodIn_of _ (by decide +kernel)) ggX5_doubletPower_X0_valueB
set_option maxRecDepth 20000 in
theorem ggX5_doubletPower_X5_floorQuotient : GoodIn wsX5_doubletPower wsX5_floorQuotient := goodIn_r _ [36, 37, 38, 39, 40] (by decide +kernel) (by decide +kernel)
set_option maxRecDepth 20000 in
theorem gX5_doubletPower_X5_floorQuotient : GoodIn wsX5_doubletPower (va_wsS RX5 132 yX5_floorQuotient wsX5_floorQuotient) := goodIn_app (goodIn_of _ (by decide +kernel)) ggX5_doubletPower_X5_floorQuotient
theorem dX5_doubletPower_0 : decode cX5_doubletPower 0 = .ok (.aload_n 0, 1) := by decide +kernel
theorem dX5_doubletPower_1 : decode cX5_doubletPower 1 = .ok (.getfield 19, 3) := by decide +kernel
theorem dX5_doubletPower_4 : decode cX5_doubletPower 4 = .ok (.iload_n 1, 1) := by decide +kernel
theorem dX5_doubletPower_5 : decode cX5_doubletPower 5 = .ok (.invokevirtual 93, 3) := by decide +kernel
theorem dX5_doubletPower_8 : decode cX5_doubletPower 8 = .ok (.ifCond .eq 14, 3) := by decide +kernel
theorem dX5_doubletPower_11 : decode cX5_doubletPower 11 = .ok (.aload_n 0, 1) := by decide +kernel
theorem dX5_doubletPower_12 : decode cX5_doubletPower 12 = .ok (.getfield 19, 3) := by decide +kernel
theorem dX5_doubletPower_15 : decode cX5_doubletPower 15 = .ok (.iload_n 2, 1) := by decide +kernel
theorem dX5_doubletPower_16 : decode cX5_doubletPower 16 = .ok (.invokevirtual 93, 3) := by decide +kernel
theorem dX5_doubletPower_19 : decode cX5_doubletPower 19 = .ok (.ifCond .ne 7, 3) := by decide +kernel
theorem dX5_doubletPower_22 : decode cX5_doubletPower 22 = .ok (.ldc2_w 97, 3) := by decide +kernel
theorem dX5_doubletPower_25 : decode cX5_doubletPower 25 = .ok (.lreturn, 1) := by decide +kernel
theorem dX5_doubletPower_26 : decode cX5_doubletPower 26 = .ok (.iload_n 3, 1) := by decide +kernel
theorem dX5_doubletPower_27 : decode cX5_doubletPower 27 = .ok (.invokestatic 141, 3) := by decide +kernel
theorem dX5_doubletPower_30 : decode cX5_doubletPower 30 = .ok (.ifCond .eq 14, 3) := by decide +kernel
theorem dX5_doubletPower_33 : decode cX5_doubletPower 33 = .ok (.iload 4, 2) := by decide +kernel
theorem dX5_doubletPower_35 : decode cX5_doubletPower 35 = .ok (.ifCond .lt 9, 3) := by decide +kernel
theorem dX5_doubletPower_38 : decode cX5_doubletPower 38 = .ok (.iload 4, 2) := by decide +kernel
theorem dX5_doubletPower_40 : decode cX5_doubletPower 40 = .ok (.iconst 1, 1) := by decide +kernel
theorem dX5_doubletPower_41 : decode cX5_doubletPower 41 = .ok (.if_icmp .le 7, 3) := by decide +kernel
theorem dX5_doubletPower_44 : decode cX5_doubletPower 44 = .ok (.ldc2_w 44, 3) := by decide +kernel
theorem dX5_doubletPower_47 : decode cX5_doubletPower 47 = .ok (.lreturn, 1) := by decide +kernel
theorem dX5_doubletPower_48 : decode cX5_doubletPower 48 = .ok (.aload_n 0, 1) := by decide +kernel
theorem dX5_doubletPower_49 : decode cX5_doubletPower 49 = .ok (.getfield 19, 3) := by decide +kernel
theorem dX5_doubletPower_52 : decode cX5_doubletPower 52 = .ok (.iload_n 1, 1) := by decide +kernel
theorem dX5_doubletPower_53 : decode cX5_doubletPower 53 = .ok (.iload_n 2, 1) := by decide +kernel
theorem dX5_doubletPower_54 : decode cX5_doubletPower 54 = .ok (.invokevirtual 144, 3) := by decide +kernel
theorem dX5_doubletPower_57 : decode cX5_doubletPower 57 = .ok (.lstore 5, 2) := by decide +kernel
theorem dX5_doubletPower_59 : decode cX5_doubletPower 59 = .ok (.lload 5, 2) := by decide +kernel
theorem dX5_doubletPower_61 : decode cX5_doubletPower 61 = .ok (.lconst 0, 1) := by decide +kernel
theorem dX5_doubletPower_62 : decode cX5_doubletPower 62 = .ok (.lcmp, 1) := by decide +kernel
theorem dX5_doubletPower_63 : decode cX5_doubletPower 63 = .ok (.ifCond .ne 7, 3) := by decide +kernel
theorem dX5_doubletPower_66 : decode cX5_doubletPower 66 = .ok (.ldc2_w 139, 3) := by decide +kernel
theorem dX5_doubletPower_69 : decode cX5_doubletPower 69 = .ok (.lreturn, 1) := by decide +kernel
theorem dX5_doubletPower_70 : decode cX5_doubletPower 70 = .ok (.iload 4, 2) := by decide +kernel
theorem dX5_doubletPower_72 : decode cX5_doubletPower 72 = .ok (.ifCond .ne 23, 3) := by decide +kernel
theorem dX5_doubletPower_75 : decode cX5_doubletPower 75 = .ok (.aload_n 0, 1) := by decide +kernel
theorem dX5_doubletPower_76 : decode cX5_doubletPower 76 = .ok (.getfield 19, 3) := by decide +kernel
theorem dX5_doubletPower_79 : decode cX5_doubletPower 79 = .ok (.iload_n 1, 1) := by decide +kernel
theorem dX5_doubletPower_80 : decode cX5_doubletPower 80 = .ok (.invokevirtual 147, 3) := by decide +kernel
theorem dX5_doubletPower_83 : decode cX5_doubletPower 83 = .ok (.aload_n 0, 1) := by decide +kernel
theorem dX5_doubletPower_84 : decode cX5_doubletPower 84 = .ok (.getfield 19, 3) := by decide +kernel
theorem dX5_doubletPower_87 : decode cX5_doubletPower 87 = .ok (.iload_n 2, 1) := by decide +kernel
theorem dX5_doubletPower_88 : decode cX5_doubletPower 88 = .ok (.invokevirtual 129, 3) := by decide +kernel
theorem dX5_doubletPower_91 : decode cX5_doubletPower 91 = .ok (.lmul, 1) := by decide +kernel
theorem dX5_doubletPower_92 : decode cX5_doubletPower 92 = .ok (.goto 21, 3) := by decide +kernel
theorem dX5_doubletPower_95 : decode cX5_doubletPower 95 = .ok (.aload_n 0, 1) := by decide +kernel
theorem dX5_doubletPower_96 : decode cX5_doubletPower 96 = .ok (.getfield 19, 3) := by decide +kernel
theorem dX5_doubletPower_99 : decode cX5_doubletPower 99 = .ok (.iload_n 2, 1) := by decide +kernel
theorem dX5_doubletPower_100 : decode cX5_doubletPower 100 = .ok (.invokevirtual 147, 3) := by decide +kernel
theorem dX5_doubletPower_103 : decode cX5_doubletPower 103 = .ok (.lneg, 1) := by decide +kernel
theorem dX5_doubletPower_104 : decode cX5_doubletPower 104 = .ok (.aload_n 0, 1) := by decide +kernel
theorem dX5_doubletPower_105 : decode cX5_doubletPower 105 = .ok (.getfield 19, 3) := by decide +kernel
theorem dX5_doubletPower_108 : decode cX5_doubletPower 108 = .ok (.iload_n 1, 1) := by decide +kernel
theorem dX5_doubletPower_109 : decode cX5_doubletPower 109 = .ok (.invokevirtual 129, 3) := by decide +kernel
theorem dX5_doubletPower_112 : decode cX5_doubletPower 112 = .ok (.lmul, 1) := by decide +kernel
theorem dX5_doubletPower_113 : decode cX5_doubletPower 113 = .ok (.lstore 7, 2) := by decide +kernel
theorem dX5_doubletPower_115 : decode cX5_doubletPower 115 = .ok (.ldc2_w 150, 3) := by decide +kernel
theorem dX5_doubletPower_118 : decode cX5_doubletPower 118 = .ok (.iload_n 3, 1) := by decide +kernel
