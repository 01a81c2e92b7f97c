theorem dX6_isNamed_3 : decode cX6_isNamed 3 = .ok (.istore 4, 2) := by decide +kernel
theorem dX6_isNamed_5 : decode cX6_isNamed 5 = .ok (.iload 4, 2) := by decide +kernel
theorem dX6_isNamed_7 : decode cX6_isNamed 7 = .ok (.aload_n 0, 1) := by decide +kernel
theorem dX6_isNamed_8 : decode cX6_isNamed 8 = .ok (.getfield 35, 3) := by decide +kernel
theorem dX6_isNamed_11 : decode cX6_isNamed 11 = .ok (.if_icmp .ge 31, 3) := by decide +kernel
theorem dX6_isNamed_14 : decode cX6_isNamed 14 = .ok (.iload_n 3, 1) := by decide +kernel
theorem dX6_isNamed_15 : decode cX6_isNamed 15 = .ok (.ifCond .ne 15, 3) := by decide +kernel
theorem dX6_isNamed_18 : decode cX6_isNamed 18 = .ok (.aload_n 0, 1) := by decide +kernel
theorem dX6_isNamed_19 : decode cX6_isNamed 19 = .ok (.getfield 13, 3) := by decide +kernel
theorem dX6_isNamed_22 : decode cX6_isNamed 22 = .ok (.iload 4, 2) := by decide +kernel
theorem dX6_isNamed_24 : decode cX6_isNamed 24 = .ok (.laload, 1) := by decide +kernel
theorem dX6_isNamed_25 : decode cX6_isNamed 25 = .ok (.lload_n 1, 1) := by decide +kernel
theorem dX6_isNamed_26 : decode cX6_isNamed 26 = .ok (.lcmp, 1) := by decide +kernel
theorem dX6_isNamed_27 : decode cX6_isNamed 27 = .ok (.ifCond .ne 7, 3) := by decide +kernel
theorem dX6_isNamed_30 : decode cX6_isNamed 30 = .ok (.iconst 1, 1) := by decide +kernel
theorem dX6_isNamed_31 : decode cX6_isNamed 31 = .ok (.goto 4, 3) := by decide +kernel
theorem dX6_isNamed_34 : decode cX6_isNamed 34 = .ok (.iconst 0, 1) := by decide +kernel
theorem dX6_isNamed_35 : decode cX6_isNamed 35 = .ok (.istore_n 3, 1) := by decide +kernel
theorem dX6_isNamed_36 : decode cX6_isNamed 36 = .ok (.iinc 4 1, 3) := by decide +kernel
theorem dX6_isNamed_39 : decode cX6_isNamed 39 = .ok (.goto (-34), 3) := by decide +kernel
theorem dX6_isNamed_42 : decode cX6_isNamed 42 = .ok (.iload_n 3, 1) := by decide +kernel
theorem dX6_isNamed_43 : decode cX6_isNamed 43 = .ok (.ireturn, 1) := by decide +kernel
set_option maxRecDepth 20000 in
theorem ggX6_addGlass_X6_parse : GoodIn wsX6_addGlass wsX6_parse := goodIn_r _ [16, 6, 11, 17, 18, 19, 20, 21, 22, 23, 10, 24, 1, 25, 26, 27, 15, 28, 39, 40, 41, 42, 43, 44, 45, 46, 47, 48, 49, 50, 51, 52, 53, 54, 55, 56] (by decide +kernel) (by decide +kernel)
set_option maxRecDepth 20000 in
theorem gX6_addGlass_X6_parse : GoodIn wsX6_addGlass (wsV RX6 83 RX6 yX6_parse wsX6_parse) := goodIn_app (goodIn_of _ (by decide +kernel)) ggX6_addGlass_X6_parse
set_option maxRecDepth 20000 in
theorem ggX6_addGlass_X6_isRight : GoodIn wsX6_addGlass wsX6_isRight := goodIn_r _ [32, 10, 33, 34, 39, 40, 41, 42, 43, 44, 45, 46, 47, 48, 49, 50, 51, 52, 53, 54, 55, 56] (by decide +kernel) (by decide +kernel)
set_option maxRecDepth 20000 in
theorem gX6_addGlass_X6_isRight : GoodIn wsX6_addGlass (wsV RX6 90 RX6 yX6_isRight wsX6_isRight) := goodIn_app (goodIn_of _ (by decide +kernel)) ggX6_addGlass_X6_isRight
set_option maxRecDepth 20000 in
theorem ggX6_addGlass_X6_isNamed : GoodIn wsX6_addGlass wsX6_isNamed := goodIn_r _ [38, 4, 8, 39, 40, 41, 42, 43, 44, 45, 46, 47, 48, 49, 50, 51, 52, 53, 54, 55, 56] (by decide +kernel) (by decide +kernel)
set_option maxRecDepth 20000 in
theorem gX6_addGlass_X6_isNamed : GoodIn wsX6_addGlass (wsV RX6 94 RX6 yX6_isNamed wsX6_isNamed) := goodIn_app (goodIn_of _ (by decide +kernel)) ggX6_addGlass_X6_isNamed
theorem dX6_addGlass_0 : decode cX6_addGlass 0 = .ok (.aload_n 0, 1) := by decide +kernel
theorem dX6_addGlass_1 : decode cX6_addGlass 1 = .ok (.invokevirtual 83, 3) := by decide +kernel
theorem dX6_addGlass_4 : decode cX6_addGlass 4 = .ok (.aload_n 0, 1) := by decide +kernel
theorem dX6_addGlass_5 : decode cX6_addGlass 5 = .ok (.getfield 77, 3) := by decide +kernel
theorem dX6_addGlass_8 : decode cX6_addGlass 8 = .ok (.ifCond .ne 7, 3) := by decide +kernel
theorem dX6_addGlass_11 : decode cX6_addGlass 11 = .ok (.ldc2_w 88, 3) := by decide +kernel
theorem dX6_addGlass_14 : decode cX6_addGlass 14 = .ok (.lreturn, 1) := by decide +kernel
theorem dX6_addGlass_15 : decode cX6_addGlass 15 = .ok (.aload_n 0, 1) := by decide +kernel
theorem dX6_addGlass_16 : decode cX6_addGlass 16 = .ok (.invokevirtual 90, 3) := by decide +kernel
theorem dX6_addGlass_19 : decode cX6_addGlass 19 = .ok (.ifCond .ne 7, 3) := by decide +kernel
theorem dX6_addGlass_22 : decode cX6_addGlass 22 = .ok (.ldc2_w 53, 3) := by decide +kernel
theorem dX6_addGlass_25 : decode cX6_addGlass 25 = .ok (.lreturn, 1) := by decide +kernel
theorem dX6_addGlass_26 : decode cX6_addGlass 26 = .ok (.aload_n 0, 1) := by decide +kernel
theorem dX6_addGlass_27 : decode cX6_addGlass 27 = .ok (.getfield 35, 3) := by decide +kernel
theorem dX6_addGlass_30 : decode cX6_addGlass 30 = .ok (.bipush 20, 2) := by decide +kernel
theorem dX6_addGlass_32 : decode cX6_addGlass 32 = .ok (.if_icmp .ne 7, 3) := by decide +kernel
theorem dX6_addGlass_35 : decode cX6_addGlass 35 = .ok (.ldc2_w 58, 3) := by decide +kernel
theorem dX6_addGlass_38 : decode cX6_addGlass 38 = .ok (.lreturn, 1) := by decide +kernel
theorem dX6_addGlass_39 : decode cX6_addGlass 39 = .ok (.aload_n 0, 1) := by decide +kernel
theorem dX6_addGlass_40 : decode cX6_addGlass 40 = .ok (.aload_n 0, 1) := by decide +kernel
theorem dX6_addGlass_41 : decode cX6_addGlass 41 = .ok (.getfield 60, 3) := by decide +kernel
theorem dX6_addGlass_44 : decode cX6_addGlass 44 = .ok (.invokevirtual 94, 3) := by decide +kernel
theorem dX6_addGlass_47 : decode cX6_addGlass 47 = .ok (.ifCond .eq 7, 3) := by decide +kernel
theorem dX6_addGlass_50 : decode cX6_addGlass 50 = .ok (.ldc2_w 98, 3) := by decide +kernel
theorem dX6_addGlass_53 : decode cX6_addGlass 53 = .ok (.lreturn, 1) := by decide +kernel
theorem dX6_addGlass_54 : decode cX6_addGlass 54 = .ok (.aload_n 0, 1) := by decide +kernel
theorem dX6_addGlass_55 : decode cX6_addGlass 55 = .ok (.getfield 13, 3) := by decide +kernel
theorem dX6_addGlass_58 : decode cX6_addGlass 58 = .ok (.aload_n 0, 1) := by decide +kernel
theorem dX6_addGlass_59 : decode cX6_addGlass 59 = .ok (.getfield 35, 3) := by decide +kernel
theorem dX6_addGlass_62 : decode cX6_addGlass 62 = .ok (.aload_n 0, 1) := by decide +kernel
theorem dX6_addGlass_63 : decode cX6_addGlass 63 = .ok (.getfield 60, 3) := by decide +kernel
theorem dX6_addGlass_66 : decode cX6_addGlass 66 = .ok (.lastore, 1) := by decide +kernel
theorem dX6_addGlass_67 : decode cX6_addGlass 67 = .ok (.iconst 0, 1) := by decide +kernel
theorem dX6_addGlass_68 : decode cX6_addGlass 68 = .ok (.istore_n 1, 1) := by decide +kernel
theorem dX6_addGlass_69 : decode cX6_addGlass 69 = .ok (.iload_n 1, 1) := by decide +kernel
theorem dX6_addGlass_70 : decode cX6_addGlass 70 = .ok (.iconst 3, 1) := by decide +kernel
theorem dX6_addGlass_71 : decode cX6_addGlass 71 = .ok (.if_icmp .ge 28, 3) := by decide +kernel
theorem dX6_addGlass_74 : decode cX6_addGlass 74 = .ok (.aload_n 0, 1) := by decide +kernel
theorem dX6_addGlass_75 : decode cX6_addGlass 75 = .ok (.getfield 17, 3) := by decide +kernel
theorem dX6_addGlass_78 : decode cX6_addGlass 78 = .ok (.iconst 3, 1) := by decide +kernel
theorem dX6_addGlass_79 : decode cX6_addGlass 79 = .ok (.aload_n 0, 1) := by decide +kernel
theorem dX6_addGlass_80 : decode cX6_addGlass 80 = .ok (.getfield 35, 3) := by decide +kernel
theorem dX6_addGlass_83 : decode cX6_addGlass 83 = .ok (.imul, 1) := by decide +kernel
theorem dX6_addGlass_84 : decode cX6_addGlass 84 = .ok (.iload_n 1, 1) := by decide +kernel
theorem dX6_addGlass_85 : decode cX6_addGlass 85 = .ok (.iadd, 1) := by decide +kernel
theorem dX6_addGlass_86 : decode cX6_addGlass 86 = .ok (.aload_n 0, 1) := by decide +kernel
theorem dX6_addGlass_87 : decode cX6_addGlass 87 = .ok (.getfield 29, 3) := by decide +kernel
theorem dX6_addGlass_90 : decode cX6_addGlass 90 = .ok (.iload_n 1, 1) := by decide +kernel
theorem dX6_addGlass_91 : decode cX6_addGlass 91 = .ok (.iaload, 1) := by decide +kernel
theorem dX6_addGlass_92 : decode cX6_addGlass 92 = .ok (.iastore, 1) := by decide +kernel
theorem dX6_addGlass_93 : decode cX6_addGlass 93 = .ok (.iinc 1 1, 3) := by decide +kernel
theorem dX6_addGlass_96 : decode cX6_addGlass 96 = .ok (.goto (-27), 3) := by decide +kernel
theorem dX6_addGlass_99 : decode cX6_addGlass 99 = .ok (.aload_n 0, 1) := by decide +kernel
theorem dX6_addGlass_100 : decode cX6_addGlass 100 = .ok (.dup, 1) := by decide +kernel
theorem dX6_addGlass_101 : decode cX6_addGlass 101 = .ok (.getfield 35, 3) := by decide +kernel
theorem dX6_addGlass_104 : decode cX6_addGlass 104 = .ok (.iconst 1, 1) := by decide +kernel
theorem dX6_addGlass_105 : decode cX6_addGlass 105 = .ok (.iadd, 1) := by decide +kernel
theorem dX6_addGlass_106 : decode cX6_addGlass 106 = .ok (.putfield 35, 3) := by decide +kernel
theorem dX6_addGlass_109 : decode cX6_addGlass 109 = .ok (.aload_n 0, 1) := by decide +kernel
theorem dX6_addGlass_110 : decode cX6_addGlass 110 = .ok (.iconst 0, 1) := by decide +kernel
theorem dX6_addGlass_111 : decode cX6_addGlass 111 = .ok (.putfield 55, 3) := by decide +kernel
theorem dX6_addGlass_114 : decode cX6_addGlass 114 = .ok (.aload_n 0, 1) := by decide +kernel
theorem dX6_addGlass_115 : decode cX6_addGlass 115 = .ok (.getfield 35, 3) := by decide +kernel
theorem dX6_addGlass_118 : decode cX6_addGlass 118 = .ok (.iconst 1, 1) := by decide +kernel
theorem dX6_addGlass_119 : decode cX6_addGlass 119 = .ok (.isub, 1) := by decide +kernel
theorem dX6_addGlass_120 : decode cX6_addGlass 120 = .ok (.i2l, 1) := by decide +kernel
theorem dX6_addGlass_121 : decode cX6_addGlass 121 = .ok (.lreturn, 1) := by decide +kernel
set_option maxRecDepth 20000 in
theorem ggX6_removeGlass_X6_isGlass : GoodIn wsX6_removeGlass wsX6_isGlass := goodIn_r _ [12, 5, 13, 14, 11, 15, 16, 17, 18, 19, 20, 21, 22, 23, 24, 25, 26, 27, 28, 29, 30, 31, 32, 33] (by decide +kernel) (by decide +kernel)
set_option maxRecDepth 20000 in
theorem gX6_removeGlass_X6_isGlass : GoodIn wsX6_removeGlass (wsV RX6 100 RX6 yX6_isGlass wsX6_isGlass) := goodIn_app (goodIn_of _ (by decide +kernel)) ggX6_removeGlass_X6_isGlass
theorem dX6_removeGlass_0 : decode cX6_removeGlass 0 = .ok (.aload_n 0, 1) := by decide +kernel
theorem dX6_removeGlass_1 : decode cX6_removeGlass 1 = .ok (.iload_n 1, 1) := by decide +kernel
theorem dX6_removeGlass_2 : decode cX6_removeGlass 2 = .ok (.invokevirtual 100, 3) := by decide +kernel
theorem dX6_removeGlass_5 : decode cX6_removeGlass 5 = .ok (.ifCond .ne 7, 3) := by decide +kernel
theorem dX6_removeGlass_8 : decode cX6_removeGlass 8 = .ok (.ldc2_w 104, 3) := by decide +kernel
theorem dX6_removeGlass_11 : decode cX6_removeGlass 11 = .ok (.lreturn, 1) := by decide +kernel
theorem dX6_removeGlass_12 : decode cX6_removeGlass 12 = .ok (.iconst 0, 1) := by decide +kernel
theorem dX6_removeGlass_13 : decode cX6_removeGlass 13 = .ok (.istore_n 2, 1) := by decide +kernel
theorem dX6_removeGlass_14 : decode cX6_removeGlass 14 = .ok (.iload_n 2, 1) := by decide +kernel
theorem dX6_removeGlass_15 : decode cX6_removeGlass 15 = .ok (.aload_n 0, 1) := by decide +kernel
theorem dX6_removeGlass_16 : decode cX6_removeGlass 16 = .ok (.getfield 43, 3) := by decide +kernel
theorem dX6_removeGlass_19 : decode cX6_removeGlass 19 = .ok (.if_icmp .ge 23, 3) := by decide +kernel
theorem dX6_removeGlass_22 : decode cX6_removeGlass 22 = .ok (.aload_n 0, 1) := by decide +kernel
theorem dX6_removeGlass_23 : decode cX6_removeGlass 23 = .ok (.getfield 20, 3) := by decide +kernel
theorem dX6_removeGlass_26 : decode cX6_removeGlass 26 = .ok (.iload_n 2, 1) := by decide +kernel
theorem dX6_removeGlass_27 : decode cX6_removeGlass 27 = .ok (.iaload, 1) := by decide +kernel
theorem dX6_removeGlass_28 : decode cX6_removeGlass 28 = .ok (.iload_n 1, 1) := by decide +kernel
theorem dX6_removeGlass_29 : decode cX6_removeGlass 29 = .ok (.if_icmp .ne 7, 3) := by decide +kernel
theorem dX6_removeGlass_32 : decode cX6_removeGlass 32 = .ok (.ldc2_w 106, 3) := by decide +kernel
theorem dX6_removeGlass_35 : decode cX6_removeGlass 35 = .ok (.lreturn, 1) := by decide +kernel
theorem dX6_removeGlass_36 : decode cX6_removeGlass 36 = .ok (.iinc 2 1, 3) := by decide +kernel
theorem dX6_removeGlass_39 : decode cX6_removeGlass 39 = .ok (.goto (-25), 3) := by decide +kernel
theorem dX6_removeGlass_42 : decode cX6_removeGlass 42 = .ok (.aload_n 0, 1) := by decide +kernel
theorem dX6_removeGlass_43 : decode cX6_removeGlass 43 = .ok (.dup, 1) := by decide +kernel
theorem dX6_removeGlass_44 : decode cX6_removeGlass 44 = .ok (.getfield 35, 3) := by decide +kernel
theorem dX6_removeGlass_47 : decode cX6_removeGlass 47 = .ok (.iconst 1, 1) := by decide +kernel
theorem dX6_removeGlass_48 : decode cX6_removeGlass 48 = .ok (.isub, 1) := by decide +kernel
theorem dX6_removeGlass_49 : decode cX6_removeGlass 49 = .ok (.putfield 35, 3) := by decide +kernel
theorem dX6_removeGlass_52 : decode cX6_removeGlass 52 = .ok (.iload_n 1, 1) := by decide +kernel
theorem dX6_removeGlass_53 : decode cX6_removeGlass 53 = .ok (.istore_n 2, 1) := by decide +kernel
theorem dX6_removeGlass_54 : decode cX6_removeGlass 54 = .ok (.iload_n 2, 1) := by decide +kernel
theorem dX6_removeGlass_55 : decode cX6_removeGlass 55 = .ok (.aload_n 0, 1) := by decide +kernel
theorem dX6_removeGlass_56 : decode cX6_removeGlass 56 = .ok (.getfield 35, 3) := by decide +kernel
theorem dX6_removeGlass_59 : decode cX6_removeGlass 59 = .ok (.if_icmp .ge 23, 3) := by decide +kernel
theorem dX6_removeGlass_62 : decode cX6_removeGlass 62 = .ok (.aload_n 0, 1) := by decide +kernel
theorem dX6_removeGlass_63 : decode cX6_removeGlass 63 = .ok (.getfield 13, 3) := by decide +kernel
theorem dX6_removeGlass_66 : decode cX6_removeGlass 66 = .ok (.iload_n 2, 1) := by decide +kernel
theorem dX6_removeGlass_67 : decode cX6_removeGlass 67 = .ok (.aload_n 0, 1) := by decide +kernel
theorem dX6_removeGlass_68 : decode cX6_removeGlass 68 = .ok (.getfield 13, 3) := by decide +kernel
theorem dX6_removeGlass_71 : decode cX6_removeGlass 71 = .ok (.iload_n 2, 1) := by decide +kernel
theorem dX6_removeGlass_72 : decode cX6_removeGlass 72 = .ok (.iconst 1, 1) := by decide +kernel
theorem dX6_removeGlass_73 : decode cX6_removeGlass 73 = .ok (.iadd, 1) := by decide +kernel
theorem dX6_removeGlass_74 : decode cX6_removeGlass 74 = .ok (.laload, 1) := by decide +kernel
theorem dX6_removeGlass_75 : decode cX6_removeGlass 75 = .ok (.lastore, 1) := by decide +kernel
theorem dX6_removeGlass_76 : decode cX6_removeGlass 76 = .ok (.iinc 2 1, 3) := by decide +kernel
theorem dX6_removeGlass_79 : decode cX6_removeGlass 79 = .ok (.goto (-25), 3) := by decide +kernel
theorem dX6_removeGlass_82 : decode cX6_removeGlass 82 = .ok (.iconst 3, 1) := by decide +kernel
theorem dX6_removeGlass_83 : decode cX6_removeGlass 83 = .ok (.iload_n 1, 1) := by decide +kernel
theorem dX6_removeGlass_84 : decode cX6_removeGlass 84 = .ok (.imul, 1) := by decide +kernel
theorem dX6_removeGlass_85 : decode cX6_removeGlass 85 = .ok (.istore_n 2, 1) := by decide +kernel
theorem dX6_removeGlass_86 : decode cX6_removeGlass 86 = .ok (.iload_n 2, 1) := by decide +kernel
theorem dX6_removeGlass_87 : decode cX6_removeGlass 87 = .ok (.iconst 3, 1) := by decide +kernel
theorem dX6_removeGlass_88 : decode cX6_removeGlass 88 = .ok (.aload_n 0, 1) := by decide +kernel
theorem dX6_removeGlass_89 : decode cX6_removeGlass 89 = .ok (.getfield 35, 3) := by decide +kernel
theorem dX6_removeGlass_92 : decode cX6_removeGlass 92 = .ok (.imul, 1) := by decide +kernel
theorem dX6_removeGlass_93 : decode cX6_removeGlass 93 = .ok (.if_icmp .ge 23, 3) := by decide +kernel
theorem dX6_removeGlass_96 : decode cX6_removeGlass 96 = .ok (.aload_n 0, 1) := by decide +kernel
theorem dX6_removeGlass_97 : decode cX6_removeGlass 97 = .ok (.getfield 17, 3) := by decide +kernel
theorem dX6_removeGlass_100 : decode cX6_removeGlass 100 = .ok (.iload_n 2, 1) := by decide +kernel
theorem dX6_removeGlass_101 : decode cX6_removeGlass 101 = .ok (.aload_n 0, 1) := by decide +kernel
theorem dX6_removeGlass_102 : decode cX6_removeGlass 102 = .ok (.getfield 17, 3) := by decide +kernel
theorem dX6_removeGlass_105 : decode cX6_removeGlass 105 = .ok (.iload_n 2, 1) := by decide +kernel
theorem dX6_removeGlass_106 : decode cX6_removeGlass 106 = .ok (.iconst 3, 1) := by decide +kernel
theorem dX6_removeGlass_107 : decode cX6_removeGlass 107 = .ok (.iadd, 1) := by decide +kernel
theorem dX6_removeGlass_108 : decode cX6_removeGlass 108 = .ok (.iaload, 1) := by decide +kernel
theorem dX6_removeGlass_109 : decode cX6_removeGlass 109 = .ok (.iastore, 1) := by decide +kernel
theorem dX6_removeGlass_110 : decode cX6_removeGlass 110 = .ok (.iinc 2 1, 3) := by decide +kernel
theorem dX6_removeGlass_113 : decode cX6_removeGlass 113 = .ok (.goto (-27), 3) := by decide +kernel
theorem dX6_removeGlass_116 : decode cX6_removeGlass 116 = .ok (.iconst 0, 1) := by decide +kernel
theorem dX6_removeGlass_117 : decode cX6_removeGlass 117 = .ok (.istore_n 2, 1) := by decide +kernel
theorem dX6_removeGlass_118 : decode cX6_removeGlass 118 = .ok (.iload_n 2, 1) := by decide +kernel
theorem dX6_removeGlass_119 : decode cX6_removeGlass 119 = .ok (.aload_n 0, 1) := by decide +kernel
theorem dX6_removeGlass_120 : decode cX6_removeGlass 120 = .ok (.getfield 43, 3) := by decide +kernel
theorem dX6_removeGlass_123 : decode cX6_removeGlass 123 = .ok (.if_icmp .ge 33, 3) := by decide +kernel
theorem dX6_removeGlass_126 : decode cX6_removeGlass 126 = .ok (.aload_n 0, 1) := by decide +kernel
theorem dX6_removeGlass_127 : decode cX6_removeGlass 127 = .ok (.getfield 20, 3) := by decide +kernel
theorem dX6_removeGlass_130 : decode cX6_removeGlass 130 = .ok (.iload_n 2, 1) := by decide +kernel
theorem dX6_removeGlass_131 : decode cX6_removeGlass 131 = .ok (.dup2, 1) := by decide +kernel
theorem dX6_removeGlass_132 : decode cX6_removeGlass 132 = .ok (.iaload, 1) := by decide +kernel
theorem dX6_removeGlass_133 : decode cX6_removeGlass 133 = .ok (.aload_n 0, 1) := by decide +kernel
theorem dX6_removeGlass_134 : decode cX6_removeGlass 134 = .ok (.getfield 20, 3) := by decide +kernel
theorem dX6_removeGlass_137 : decode cX6_removeGlass 137 = .ok (.iload_n 2, 1) := by decide +kernel
theorem dX6_removeGlass_138 : decode cX6_removeGlass 138 = .ok (.iaload, 1) := by decide +kernel
theorem dX6_removeGlass_139 : decode cX6_removeGlass 139 = .ok (.iload_n 1, 1) := by decide +kernel
theorem dX6_removeGlass_140 : decode cX6_removeGlass 140 = .ok (.if_icmp .le 7, 3) := by decide +kernel
theorem dX6_removeGlass_143 : decode cX6_removeGlass 143 = .ok (.iconst 1, 1) := by decide +kernel
theorem dX6_removeGlass_144 : decode cX6_removeGlass 144 = .ok (.goto 4, 3) := by decide +kernel
theorem dX6_removeGlass_147 : decode cX6_removeGlass 147 = .ok (.iconst 0, 1) := by decide +kernel
theorem dX6_removeGlass_148 : decode cX6_removeGlass 148 = .ok (.isub, 1) := by decide +kernel
theorem dX6_removeGlass_149 : decode cX6_removeGlass 149 = .ok (.iastore, 1) := by decide +kernel
theorem dX6_removeGlass_150 : decode cX6_removeGlass 150 = .ok (.iinc 2 1, 3) := by decide +kernel
theorem dX6_removeGlass_153 : decode cX6_removeGlass 153 = .ok (.goto (-35), 3) := by decide +kernel
theorem dX6_removeGlass_156 : decode cX6_removeGlass 156 = .ok (.aload_n 0, 1) := by decide +kernel
theorem dX6_removeGlass_157 : decode cX6_removeGlass 157 = .ok (.getfield 35, 3) := by decide +kernel
theorem dX6_removeGlass_160 : decode cX6_removeGlass 160 = .ok (.i2l, 1) := by decide +kernel
theorem dX6_removeGlass_161 : decode cX6_removeGlass 161 = .ok (.lreturn, 1) := by decide +kernel
theorem dX6_glassCount_0 : decode cX6_glassCount 0 = .ok (.aload_n 0, 1) := by decide +kernel
theorem dX6_glassCount_1 : decode cX6_glassCount 1 = .ok (.getfield 35, 3) := by decide +kernel
theorem dX6_glassCount_4 : decode cX6_glassCount 4 = .ok (.i2l, 1) := by decide +kernel
theorem dX6_glassCount_5 : decode cX6_glassCount 5 = .ok (.lreturn, 1) := by decide +kernel
set_option maxRecDepth 20000 in
theorem ggX6_index_X6_isGlass : GoodIn wsX6_index wsX6_isGlass := goodIn_r _ [8, 9, 10, 11, 7, 12, 17, 18, 19, 20, 21, 22, 23, 24, 25, 26, 27, 28, 29, 30, 31, 32, 33, 34] (by decide +kernel) (by decide +kernel)
set_option maxRecDepth 20000 in
theorem gX6_index_X6_isGlass : GoodIn wsX6_index (wsV RX6 100 RX6 yX6_isGlass wsX6_isGlass) := goodIn_app (goodIn_of _ (by decide +kernel)) ggX6_index_X6_isGlass
set_option maxRecDepth 20000 in
theorem ggX6_index_X6_isColour : GoodIn wsX6_index wsX6_isColour := goodIn_r _ [15, 16, 10, 11, 7, 12] (by decide +kernel) (by decide +kernel)
set_option maxRecDepth 20000 in
theorem gX6_index_X6_isColour : GoodIn wsX6_index (va_wsS RX6 108 yX6_isColour wsX6_isColour) := goodIn_app (goodIn_of _ (by decide +kernel)) ggX6_index_X6_isColour
theorem dX6_index_0 : decode cX6_index 0 = .ok (.aload_n 0, 1) := by decide +kernel
theorem dX6_index_1 : decode cX6_index 1 = .ok (.iload_n 1, 1) := by decide +kernel
theorem dX6_index_2 : decode cX6_index 2 = .ok (.invokevirtual 100, 3) := by decide +kernel
theorem dX6_index_5 : decode cX6_index 5 = .ok (.ifCond .ne 7, 3) := by decide +kernel
theorem dX6_index_8 : decode cX6_index 8 = .ok (.ldc2_w 104, 3) := by decide +kernel
theorem dX6_index_11 : decode cX6_index 11 = .ok (.lreturn, 1) := by decide +kernel
theorem dX6_index_12 : decode cX6_index 12 = .ok (.iload_n 2, 1) := by decide +kernel
theorem dX6_index_13 : decode cX6_index 13 = .ok (.invokestatic 108, 3) := by decide +kernel
theorem dX6_index_16 : decode cX6_index 16 = .ok (.ifCond .eq 17, 3) := by decide +kernel
theorem dX6_index_19 : decode cX6_index 19 = .ok (.aload_n 0, 1) := by decide +kernel
theorem dX6_index_20 : decode cX6_index 20 = .ok (.getfield 17, 3) := by decide +kernel
theorem dX6_index_23 : decode cX6_index 23 = .ok (.iconst 3, 1) := by decide +kernel
theorem dX6_index_24 : decode cX6_index 24 = .ok (.iload_n 1, 1) := by decide +kernel
theorem dX6_index_25 : decode cX6_index 25 = .ok (.imul, 1) := by decide +kernel
theorem dX6_index_26 : decode cX6_index 26 = .ok (.iload_n 2, 1) := by decide +kernel
theorem dX6_index_27 : decode cX6_index 27 = .ok (.iadd, 1) := by decide +kernel
theorem dX6_index_28 : decode cX6_index 28 = .ok (.iaload, 1) := by decide +kernel
theorem dX6_index_29 : decode cX6_index 29 = .ok (.i2l, 1) := by decide +kernel
theorem dX6_index_30 : decode cX6_index 30 = .ok (.goto 6, 3) := by decide +kernel
theorem dX6_index_33 : decode cX6_index 33 = .ok (.ldc2_w 53, 3) := by decide +kernel
theorem dX6_index_36 : decode cX6_index 36 = .ok (.lreturn, 1) := by decide +kernel
theorem dX6_placeNow_0 : decode cX6_placeNow 0 = .ok (.lconst 0, 1) := by decide +kernel
theorem dX6_placeNow_1 : decode cX6_placeNow 1 = .ok (.lstore_n 2, 1) := by decide +kernel
theorem dX6_placeNow_2 : decode cX6_placeNow 2 = .ok (.iconst 0, 1) := by decide +kernel
theorem dX6_placeNow_3 : decode cX6_placeNow 3 = .ok (.istore 4, 2) := by decide +kernel
theorem dX6_placeNow_5 : decode cX6_placeNow 5 = .ok (.iload 4, 2) := by decide +kernel
theorem dX6_placeNow_7 : decode cX6_placeNow 7 = .ok (.aload_n 0, 1) := by decide +kernel
theorem dX6_placeNow_8 : decode cX6_placeNow 8 = .ok (.getfield 35, 3) := by decide +kernel
theorem dX6_placeNow_11 : decode cX6_placeNow 11 = .ok (.if_icmp .ge 34, 3) := by decide +kernel
theorem dX6_placeNow_14 : decode cX6_placeNow 14 = .ok (.lload_n 2, 1) := by decide +kernel
theorem dX6_placeNow_15 : decode cX6_placeNow 15 = .ok (.aload_n 0, 1) := by decide +kernel
theorem dX6_placeNow_16 : decode cX6_placeNow 16 = .ok (.getfield 13, 3) := by decide +kernel
theorem dX6_placeNow_19 : decode cX6_placeNow 19 = .ok (.iload 4, 2) := by decide +kernel
theorem dX6_placeNow_21 : decode cX6_placeNow 21 = .ok (.laload, 1) := by decide +kernel
theorem dX6_placeNow_22 : decode cX6_placeNow 22 = .ok (.aload_n 0, 1) := by decide +kernel
theorem dX6_placeNow_23 : decode cX6_placeNow 23 = .ok (.getfield 13, 3) := by decide +kernel
theorem dX6_placeNow_26 : decode cX6_placeNow 26 = .ok (.iload_n 1, 1) := by decide +kernel
theorem dX6_placeNow_27 : decode cX6_placeNow 27 = .ok (.laload, 1) := by decide +kernel
theorem dX6_placeNow_28 : decode cX6_placeNow 28 = .ok (.lcmp, 1) := by decide +kernel
theorem dX6_placeNow_29 : decode cX6_placeNow 29 = .ok (.ifCond .ge 7, 3) := by decide +kernel
theorem dX6_placeNow_32 : decode cX6_placeNow 32 = .ok (.lconst 1, 1) := by decide +kernel
theorem dX6_placeNow_33 : decode cX6_placeNow 33 = .ok (.goto 4, 3) := by decide +kernel
theorem dX6_placeNow_36 : decode cX6_placeNow 36 = .ok (.lconst 0, 1) := by decide +kernel
theorem dX6_placeNow_37 : decode cX6_placeNow 37 = .ok (.ladd, 1) := by decide +kernel
theorem dX6_placeNow_38 : decode cX6_placeNow 38 = .ok (.lstore_n 2, 1) := by decide +kernel
theorem dX6_placeNow_39 : decode cX6_placeNow 39 = .ok (.iinc 4 1, 3) := by decide +kernel
theorem dX6_placeNow_42 : decode cX6_placeNow 42 = .ok (.goto (-37), 3) := by decide +kernel
theorem dX6_placeNow_45 : decode cX6_placeNow 45 = .ok (.lload_n 2, 1) := by decide +kernel
theorem dX6_placeNow_46 : decode cX6_placeNow 46 = .ok (.lreturn, 1) := by decide +kernel
set_option maxRecDepth 20000 in
theorem ggX6_placeByName_X6_isGlass : GoodIn wsX6_placeByName wsX6_isGlass := goodIn_r _ [6, 7, 8, 9, 5, 10, 16, 17, 18, 19, 20, 21, 22, 23, 24, 25, 26, 27, 28, 29, 30, 31, 32, 33] (by decide +kernel) (by decide +kernel)
set_option maxRecDepth 20000 in
theorem gX6_placeByName_X6_isGlass : GoodIn wsX6_placeByName (wsV RX6 100 RX6 yX6_isGlass wsX6_isGlass) := goodIn_app (goodIn_of _ (by decide +kernel)) ggX6_placeByName_X6_isGlass
set_option maxRecDepth 20000 in
theorem ggX6_placeByName_X6_placeNow : GoodIn wsX6_placeByName wsX6_placeNow := goodIn_r _ [14, 7, 15, 16, 17, 18, 19, 20, 21, 22, 23, 24, 25, 26, 27, 28, 29, 30, 31, 32, 33] (by decide +kernel) (by decide +kernel)
set_option maxRecDepth 20000 in
theorem gX6_placeByName_X6_placeNow : GoodIn wsX6_placeByName (wsV RX6 111 RX6 yX6_placeNow wsX6_placeNow) := goodIn_app (goodIn_of _ (by decide +kernel)) ggX6_placeByName_X6_placeNow
theorem dX6_placeByName_0 : decode cX6_placeByName 0 = .ok (.aload_n 0, 1) := by decide +kernel
theorem dX6_placeByName_1 : decode cX6_placeByName 1 = .ok (.iload_n 1, 1) := by decide +kernel
theorem dX6_placeByName_2 : decode cX6_placeByName 2 = .ok (.invokevirtual 100, 3) := by decide +kernel
theorem dX6_placeByName_5 : decode cX6_placeByName 5 = .ok (.ifCond .eq 11, 3) := by decide +kernel
theorem dX6_placeByName_8 : decode cX6_placeByName 8 = .ok (.aload_n 0, 1) := by decide +kernel
theorem dX6_placeByName_9 : decode cX6_placeByName 9 = .ok (.iload_n 1, 1) := by decide +kernel
theorem dX6_placeByName_10 : decode cX6_placeByName 10 = .ok (.invokevirtual 111, 3) := by decide +kernel
theorem dX6_placeByName_13 : decode cX6_placeByName 13 = .ok (.goto 6, 3) := by decide +kernel
theorem dX6_placeByName_16 : decode cX6_placeByName 16 = .ok (.ldc2_w 104, 3) := by decide +kernel
theorem dX6_placeByName_19 : decode cX6_placeByName 19 = .ok (.lreturn, 1) := by decide +kernel
set_option maxRecDepth 20000 in
theorem ggX6_abbeNow_X6_a : GoodIn wsX6_abbeNow wsX6_a := goodIn_r _ [6, 7, 8, 13, 14, 15, 16, 17, 18, 19, 20, 21, 22, 23, 24, 25, 26, 27, 28, 29, 30] (by decide +kernel) (by decide +kernel)
set_option maxRecDepth 20000 in
theorem gX6_abbeNow_X6_a : GoodIn wsX6_abbeNow (wsV RX6 117 RX6 yX6_a wsX6_a) := goodIn_app (goodIn_of _ (by decide +kernel)) ggX6_abbeNow_X6_a
set_option maxRecDepth 20000 in
theorem ggX6_abbeNow_X6_b : GoodIn wsX6_abbeNow wsX6_b := goodIn_r _ [12, 7, 13, 14, 15, 16, 17, 18, 19, 20, 21, 22, 23, 24, 25, 26, 27, 28, 29, 30] (by decide +kernel) (by decide +kernel)
set_option maxRecDepth 20000 in
theorem gX6_abbeNow_X6_b : GoodIn wsX6_abbeNow (wsV RX6 120 RX6 yX6_b wsX6_b) := goodIn_app (goodIn_of _ (by decide +kernel)) ggX6_abbeNow_X6_b
theorem dX6_abbeNow_0 : decode cX6_abbeNow 0 = .ok (.ldc2_w 115, 3) := by decide +kernel
theorem dX6_abbeNow_3 : decode cX6_abbeNow 3 = .ok (.aload_n 0, 1) := by decide +kernel
theorem dX6_abbeNow_4 : decode cX6_abbeNow 4 = .ok (.iload_n 1, 1) := by decide +kernel
theorem dX6_abbeNow_5 : decode cX6_abbeNow 5 = .ok (.invokevirtual 117, 3) := by decide +kernel
theorem dX6_abbeNow_8 : decode cX6_abbeNow 8 = .ok (.lmul, 1) := by decide +kernel
theorem dX6_abbeNow_9 : decode cX6_abbeNow 9 = .ok (.aload_n 0, 1) := by decide +kernel
theorem dX6_abbeNow_10 : decode cX6_abbeNow 10 = .ok (.iload_n 1, 1) := by decide +kernel
theorem dX6_abbeNow_11 : decode cX6_abbeNow 11 = .ok (.invokevirtual 120, 3) := by decide +kernel
theorem dX6_abbeNow_14 : decode cX6_abbeNow 14 = .ok (.ldiv, 1) := by decide +kernel
theorem dX6_abbeNow_15 : decode cX6_abbeNow 15 = .ok (.lreturn, 1) := by decide +kernel
set_option maxRecDepth 20000 in
theorem ggX6_partialNow_X6_d : GoodIn wsX6_partialNow wsX6_d := goodIn_r _ [6, 7, 12, 13, 14, 15, 16, 17, 18, 19, 20, 21, 22, 23, 24, 25, 26, 27, 28, 29] (by decide +kernel) (by decide +kernel)
set_option maxRecDepth 20000 in
theorem gX6_partialNow_X6_d : GoodIn wsX6_partialNow (wsV RX6 125 RX6 yX6_d wsX6_d) := goodIn_app (goodIn_of _ (by decide +kernel)) ggX6_partialNow_X6_d
set_option maxRecDepth 20000 in
theorem ggX6_partialNow_X6_b : GoodIn wsX6_partialNow wsX6_b := goodIn_r _ [11, 7, 12, 13, 14, 15, 16, 17, 18, 19, 20, 21, 22, 23, 24, 25, 26, 27, 28, 29] (by decide +kernel) (by decide +kernel)
set_option maxRecDepth 20000 in
theorem gX6_partialNow_X6_b : GoodIn wsX6_partialNow (wsV RX6 120 RX6 yX6_b wsX6_b) := goodIn_app (goodIn_of _ (by decide +kernel)) ggX6_partialNow_X6_b
theorem dX6_partialNow_0 : decode cX6_partialNow 0 = .ok (.ldc2_w 123, 3) := by decide +kernel
theorem dX6_partialNow_3 : decode cX6_partialNow 3 = .ok (.aload_n 0, 1) := by decide +kernel
theorem dX6_partialNow_4 : decode cX6_partialNow 4 = .ok (.iload_n 1, 1) := by decide +kernel
theorem dX6_partialNow_5 : decode cX6_partialNow 5 = .ok (.invokevirtual 125, 3) := by decide +kernel
theorem dX6_partialNow_8 : decode cX6_partialNow 8 = .ok (.lmul, 1) := by decide +kernel
theorem dX6_partialNow_9 : decode cX6_partialNow 9 = .ok (.aload_n 0, 1) := by decide +kernel
theorem dX6_partialNow_10 : decode cX6_partialNow 10 = .ok (.iload_n 1, 1) := by decide +kernel
theorem dX6_partialNow_11 : decode cX6_partialNow 11 = .ok (.invokevirtual 120, 3) := by decide +kernel
theorem dX6_partialNow_14 : decode cX6_partialNow 14 = .ok (.ldiv, 1) := by decide +kernel
theorem dX6_partialNow_15 : decode cX6_partialNow 15 = .ok (.lreturn, 1) := by decide +kernel
set_option maxRecDepth 20000 in
theorem ggX6_abbe_X6_isGlass : GoodIn wsX6_abbe wsX6_isGlass := goodIn_r _ [6, 7, 8, 9, 5, 10, 26, 27, 28, 29, 30, 31, 32, 33, 34, 35, 36, 37, 38, 39, 40, 41, 42, 43] (by decide +kernel) (by decide +kernel)
set_option maxRecDepth 20000 in
theorem gX6_abbe_X6_isGlass : GoodIn wsX6_abbe (wsV RX6 100 RX6 yX6_isGlass wsX6_isGlass) := goodIn_app (goodIn_of _ (by decide +kernel)) ggX6_abbe_X6_isGlass
set_option maxRecDepth 20000 in
theorem ggX6_abbe_X6_abbeNow : GoodIn wsX6_abbe wsX6_abbeNow := goodIn_r _ [14, 15, 16, 17, 18, 5, 19, 20, 21, 22, 23, 24, 25, 26, 27, 28, 29, 30, 31, 32, 33, 34, 35, 36, 37, 38, 39, 40, 41, 42, 43] (by decide +kernel) (by decide +kernel)
set_option maxRecDepth 20000 in
theorem gX6_abbe_X6_abbeNow : GoodIn wsX6_abbe (wsV RX6 128 RX6 yX6_abbeNow wsX6_abbeNow) := goodIn_app (goodIn_of _ (by decide +kernel)) ggX6_abbe_X6_abbeNow
theorem dX6_abbe_0 : decode cX6_abbe 0 = .ok (.aload_n 0, 1) := by decide +kernel
theorem dX6_abbe_1 : decode cX6_abbe 1 = .ok (.iload_n 1, 1) := by decide +kernel
theorem dX6_abbe_2 : decode cX6_abbe 2 = .ok (.invokevirtual 100, 3) := by decide +kernel
theorem dX6_abbe_5 : decode cX6_abbe 5 = .ok (.ifCond .eq 11, 3) := by decide +kernel
theorem dX6_abbe_8 : decode cX6_abbe 8 = .ok (.aload_n 0, 1) := by decide +kernel
theorem dX6_abbe_9 : decode cX6_abbe 9 = .ok (.iload_n 1, 1) := by decide +kernel
theorem dX6_abbe_10 : decode cX6_abbe 10 = .ok (.invokevirtual 128, 3) := by decide +kernel
theorem dX6_abbe_13 : decode cX6_abbe 13 = .ok (.goto 6, 3) := by decide +kernel
theorem dX6_abbe_16 : decode cX6_abbe 16 = .ok (.ldc2_w 104, 3) := by decide +kernel
theorem dX6_abbe_19 : decode cX6_abbe 19 = .ok (.lreturn, 1) := by decide +kernel
set_option maxRecDepth 20000 in
theorem ggX6_partial_X6_isGlass : GoodIn wsX6_partial wsX6_isGlass := goodIn_r _ [6, 7, 8, 9, 5, 10, 25, 26, 27, 28, 29, 30, 31, 32, 33, 34, 35, 36, 37, 38, 39, 40, 41, 42] (by decide +kernel) (by decide +kernel)
set_option maxRecDepth 20000 in
theorem gX6_partial_X6_isGlass : GoodIn wsX6_partial (wsV RX6 100 RX6 yX6_isGlass wsX6_isGlass) := goodIn_app (goodIn_of _ (by decide +kernel)) ggX6_partial_X6_isGlass
set_option maxRecDepth 20000 in
theorem ggX6_partial_X6_partialNow : GoodIn wsX6_partial wsX6_partialNow := goodIn_r _ [14, 15, 16, 17, 18, 5, 19, 20, 21, 22, 23, 24, 25, 26, 27, 28, 29, 30, 31, 32, 33, 34, 35, 36, 37, 38, 39, 40, 41, 42] (by decide +kernel) (by decide +kernel)
set_option maxRecDepth 20000 in
theorem gX6_partial_X6_partialNow : GoodIn wsX6_partial (wsV RX6 131 RX6 yX6_partialNow wsX6_partialNow) := goodIn_app (goodIn_of _ (by decide +kernel)) ggX6_partial_X6_partialNow
theorem dX6_partial_0 : decode cX6_partial 0 = .ok (.aload_n 0, 1) := by decide +kernel
theorem dX6_partial_1 : decode cX6_partial 1 = .ok (.iload_n 1, 1) := by decide +kernel
theorem dX6_partial_2 : decode cX6_partial 2 = .ok (.invokevirtual 100, 3) := by decide +kernel
theorem dX6_partial_5 : decode cX6_partial 5 = .ok (.ifCond .eq 11, 3) := by decide +kernel
theorem dX6_partial_8 : decode cX6_partial 8 = .ok (.aload_n 0, 1) := by decide +kernel
theorem dX6_partial_9 : decode cX6_partial 9 = .ok (.iload_n 1, 1) := by decide +kernel
theorem dX6_partial_10 : decode cX6_partial 10 = .ok (.invokevirtual 131, 3) := by decide +kernel
theorem dX6_partial_13 : decode cX6_partial 13 = .ok (.goto 6, 3) := by decide +kernel
theorem dX6_partial_16 : decode cX6_partial 16 = .ok (.ldc2_w 104, 3) := by decide +kernel
theorem dX6_partial_19 : decode cX6_partial 19 = .ok (.lreturn, 1) := by decide +kernel
set_option maxRecDepth 20000 in
theorem ggX6_glassWithAbbe_X6_abbeNow : GoodIn wsX6_glassWithAbbe wsX6_abbeNow := goodIn_r _ [7, 8, 9, 10, 11, 6, 12, 13, 14, 15, 16, 17, 18, 19, 20, 21, 22, 23, 24, 25, 26, 27, 28, 29, 30, 31, 32, 33, 34, 35, 36] (by decide +kernel) (by decide +kernel)
set_option maxRecDepth 20000 in
theorem gX6_glassWithAbbe_X6_abbeNow : GoodIn wsX6_glassWithAbbe (wsV RX6 128 RX6 yX6_abbeNow wsX6_abbeNow) := goodIn_app (goodIn_of _ (by decide +kernel)) ggX6_glassWithAbbe_X6_abbeNow
theorem dX6_glassWithAbbe_0 : decode cX6_glassWithAbbe 0 = .ok (.iconst (-1), 1) := by decide +kernel
theorem dX6_glassWithAbbe_1 : decode cX6_glassWithAbbe 1 = .ok (.istore_n 2, 1) := by decide +kernel
theorem dX6_glassWithAbbe_2 : decode cX6_glassWithAbbe 2 = .ok (.iconst 0, 1) := by decide +kernel
theorem dX6_glassWithAbbe_3 : decode cX6_glassWithAbbe 3 = .ok (.istore_n 3, 1) := by decide +kernel
theorem dX6_glassWithAbbe_4 : decode cX6_glassWithAbbe 4 = .ok (.iload_n 3, 1) := by decide +kernel
theorem dX6_glassWithAbbe_5 : decode cX6_glassWithAbbe 5 = .ok (.aload_n 0, 1) := by decide +kernel
theorem dX6_glassWithAbbe_6 : decode cX6_glassWithAbbe 6 = .ok (.getfield 35, 3) := by decide +kernel
theorem dX6_glassWithAbbe_9 : decode cX6_glassWithAbbe 9 = .ok (.if_icmp .ge 56, 3) := by decide +kernel
theorem dX6_glassWithAbbe_12 : decode cX6_glassWithAbbe 12 = .ok (.aload_n 0, 1) := by decide +kernel
theorem dX6_glassWithAbbe_13 : decode cX6_glassWithAbbe 13 = .ok (.iload_n 3, 1) := by decide +kernel
theorem dX6_glassWithAbbe_14 : decode cX6_glassWithAbbe 14 = .ok (.invokevirtual 128, 3) := by decide +kernel
theorem dX6_glassWithAbbe_17 : decode cX6_glassWithAbbe 17 = .ok (.iload_n 1, 1) := by decide +kernel
theorem dX6_glassWithAbbe_18 : decode cX6_glassWithAbbe 18 = .ok (.i2l, 1) := by decide +kernel
theorem dX6_glassWithAbbe_19 : decode cX6_glassWithAbbe 19 = .ok (.lcmp, 1) := by decide +kernel
theorem dX6_glassWithAbbe_20 : decode cX6_glassWithAbbe 20 = .ok (.ifCond .lt 25, 3) := by decide +kernel
theorem dX6_glassWithAbbe_23 : decode cX6_glassWithAbbe 23 = .ok (.iload_n 2, 1) := by decide +kernel
theorem dX6_glassWithAbbe_24 : decode cX6_glassWithAbbe 24 = .ok (.ifCond .lt 17, 3) := by decide +kernel
theorem dX6_glassWithAbbe_27 : decode cX6_glassWithAbbe 27 = .ok (.aload_n 0, 1) := by decide +kernel
theorem dX6_glassWithAbbe_28 : decode cX6_glassWithAbbe 28 = .ok (.iload_n 3, 1) := by decide +kernel
theorem dX6_glassWithAbbe_29 : decode cX6_glassWithAbbe 29 = .ok (.invokevirtual 128, 3) := by decide +kernel
theorem dX6_glassWithAbbe_32 : decode cX6_glassWithAbbe 32 = .ok (.aload_n 0, 1) := by decide +kernel
theorem dX6_glassWithAbbe_33 : decode cX6_glassWithAbbe 33 = .ok (.iload_n 2, 1) := by decide +kernel
theorem dX6_glassWithAbbe_34 : decode cX6_glassWithAbbe 34 = .ok (.invokevirtual 128, 3) := by decide +kernel
theorem dX6_glassWithAbbe_37 : decode cX6_glassWithAbbe 37 = .ok (.lcmp, 1) := by decide +kernel
theorem dX6_glassWithAbbe_38 : decode cX6_glassWithAbbe 38 = .ok (.ifCond .ge 7, 3) := by decide +kernel
theorem dX6_glassWithAbbe_41 : decode cX6_glassWithAbbe 41 = .ok (.iconst 1, 1) := by decide +kernel
theorem dX6_glassWithAbbe_42 : decode cX6_glassWithAbbe 42 = .ok (.goto 4, 3) := by decide +kernel
theorem dX6_glassWithAbbe_45 : decode cX6_glassWithAbbe 45 = .ok (.iconst 0, 1) := by decide +kernel
theorem dX6_glassWithAbbe_46 : decode cX6_glassWithAbbe 46 = .ok (.istore 4, 2) := by decide +kernel
theorem dX6_glassWithAbbe_48 : decode cX6_glassWithAbbe 48 = .ok (.iload 4, 2) := by decide +kernel
theorem dX6_glassWithAbbe_50 : decode cX6_glassWithAbbe 50 = .ok (.ifCond .eq 7, 3) := by decide +kernel
theorem dX6_glassWithAbbe_53 : decode cX6_glassWithAbbe 53 = .ok (.iload_n 3, 1) := by decide +kernel
theorem dX6_glassWithAbbe_54 : decode cX6_glassWithAbbe 54 = .ok (.goto 4, 3) := by decide +kernel
theorem dX6_glassWithAbbe_57 : decode cX6_glassWithAbbe 57 = .ok (.iload_n 2, 1) := by decide +kernel
theorem dX6_glassWithAbbe_58 : decode cX6_glassWithAbbe 58 = .ok (.istore_n 2, 1) := by decide +kernel
theorem dX6_glassWithAbbe_59 : decode cX6_glassWithAbbe 59 = .ok (.iinc 3 1, 3) := by decide +kernel
theorem dX6_glassWithAbbe_62 : decode cX6_glassWithAbbe 62 = .ok (.goto (-58), 3) := by decide +kernel
theorem dX6_glassWithAbbe_65 : decode cX6_glassWithAbbe 65 = .ok (.iload_n 2, 1) := by decide +kernel
theorem dX6_glassWithAbbe_66 : decode cX6_glassWithAbbe 66 = .ok (.ifCond .ge 9, 3) := by decide +kernel
theorem dX6_glassWithAbbe_69 : decode cX6_glassWithAbbe 69 = .ok (.ldc2_w 134, 3) := by decide +kernel
theorem dX6_glassWithAbbe_72 : decode cX6_glassWithAbbe 72 = .ok (.goto 5, 3) := by decide +kernel
theorem dX6_glassWithAbbe_75 : decode cX6_glassWithAbbe 75 = .ok (.iload_n 2, 1) := by decide +kernel
theorem dX6_glassWithAbbe_76 : decode cX6_glassWithAbbe 76 = .ok (.i2l, 1) := by decide +kernel
theorem dX6_glassWithAbbe_77 : decode cX6_glassWithAbbe 77 = .ok (.lreturn, 1) := by decide +kernel
set_option maxRecDepth 20000 in
theorem ggX6_e_X6_a : GoodIn wsX6_e wsX6_a := goodIn_r _ [5, 6, 7, 12, 13, 14, 15, 16, 17, 18, 19, 20, 21, 22, 23, 24, 25, 26, 27, 28, 29] (by decide +kernel) (by decide +kernel)
set_option maxRecDepth 20000 in
theorem gX6_e_X6_a : GoodIn wsX6_e (wsV RX6 117 RX6 yX6_a wsX6_a) := goodIn_app (goodIn_of _ (by decide +kernel)) ggX6_e_X6_a
set_option maxRecDepth 20000 in
theorem ggX6_e_X6_b : GoodIn wsX6_e wsX6_b := goodIn_r _ [11, 6, 12, 13, 14, 15, 16, 17, 18, 19, 20, 21, 22, 23, 24, 25, 26, 27, 28, 29] (by decide +kernel) (by decide +kernel)
set_option maxRecDepth 20000 in
theorem gX6_e_X6_b : GoodIn wsX6_e (wsV RX6 120 RX6 yX6_b wsX6_b) := goodIn_app (goodIn_of _ (by decide +kernel)) ggX6_e_X6_b
theorem dX6_e_0 : decode cX6_e 0 = .ok (.aload_n 0, 1) := by decide +kernel
theorem dX6_e_1 : decode cX6_e 1 = .ok (.iload_n 1, 1) := by decide +kernel
theorem dX6_e_2 : decode cX6_e 2 = .ok (.invokevirtual 117, 3) := by decide +kernel
theorem dX6_e_5 : decode cX6_e 5 = .ok (.aload_n 0, 1) := by decide +kernel
theorem dX6_e_6 : decode cX6_e 6 = .ok (.iload_n 2, 1) := by decide +kernel
theorem dX6_e_7 : decode cX6_e 7 = .ok (.invokevirtual 120, 3) := by decide +kernel
theorem dX6_e_10 : decode cX6_e 10 = .ok (.lmul, 1) := by decide +kernel
theorem dX6_e_11 : decode cX6_e 11 = .ok (.aload_n 0, 1) := by decide +kernel
theorem dX6_e_12 : decode cX6_e 12 = .ok (.iload_n 2, 1) := by decide +kernel
theorem dX6_e_13 : decode cX6_e 13 = .ok (.invokevirtual 117, 3) := by decide +kernel
theorem dX6_e_16 : decode cX6_e 16 = .ok (.aload_n 0, 1) := by decide +kernel
theorem dX6_e_17 : decode cX6_e 17 = .ok (.iload_n 1, 1) := by decide +kernel
theorem dX6_e_18 : decode cX6_e 18 = .ok (.invokevirtual 120, 3) := by decide +kernel
theorem dX6_e_21 : decode cX6_e 21 = .ok (.lmul, 1) := by decide +kernel
theorem dX6_e_22 : decode cX6_e 22 = .ok (.lsub, 1) := by decide +kernel
theorem dX6_e_23 : decode cX6_e 23 = .ok (.lreturn, 1) := by decide +kernel
set_option maxRecDepth 20000 in
theorem ggX6_spectrum_X6_d : GoodIn wsX6_spectrum wsX6_d := goodIn_r _ [5, 6, 11, 12, 13, 14, 15, 16, 17, 18, 19, 20, 21, 22, 23, 24, 25, 26, 27, 28] (by decide +kernel) (by decide +kernel)
set_option maxRecDepth 20000 in
theorem gX6_spectrum_X6_d : GoodIn wsX6_spectrum (wsV RX6 125 RX6 yX6_d wsX6_d) := goodIn_app (goodIn_of _ (by decide +kernel)) ggX6_spectrum_X6_d
set_option maxRecDepth 20000 in
theorem ggX6_spectrum_X6_b : GoodIn wsX6_spectrum wsX6_b := goodIn_r _ [10, 6, 11, 12, 13, 14, 15, 16, 17, 18, 19, 20, 21, 22, 23, 24, 25, 26, 27, 28] (by decide +kernel) (by decide +kernel)
set_option maxRecDepth 20000 in
theorem gX6_spectrum_X6_b : GoodIn wsX6_spectrum (wsV RX6 120 RX6 yX6_b wsX6_b) := goodIn_app (goodIn_of _ (by decide +kernel)) ggX6_spectrum_X6_b
theorem dX6_spectrum_0 : decode cX6_spectrum 0 = .ok (.aload_n 0, 1) := by decide +kernel
theorem dX6_spectrum_1 : decode cX6_spectrum 1 = .ok (.iload_n 1, 1) := by decide +kernel
theorem dX6_spectrum_2 : decode cX6_spectrum 2 = .ok (.invokevirtual 125, 3) := by decide +kernel
theorem dX6_spectrum_5 : decode cX6_spectrum 5 = .ok (.aload_n 0, 1) := by decide +kernel
theorem dX6_spectrum_6 : decode cX6_spectrum 6 = .ok (.iload_n 2, 1) := by decide +kernel
theorem dX6_spectrum_7 : decode cX6_spectrum 7 = .ok (.invokevirtual 120, 3) := by decide +kernel
theorem dX6_spectrum_10 : decode cX6_spectrum 10 = .ok (.lmul, 1) := by decide +kernel
theorem dX6_spectrum_11 : decode cX6_spectrum 11 = .ok (.aload_n 0, 1) := by decide +kernel
theorem dX6_spectrum_12 : decode cX6_spectrum 12 = .ok (.iload_n 2, 1) := by decide +kernel
theorem dX6_spectrum_13 : decode cX6_spectrum 13 = .ok (.invokevirtual 125, 3) := by decide +kernel
theorem dX6_spectrum_16 : decode cX6_spectrum 16 = .ok (.aload_n 0, 1) := by decide +kernel
theorem dX6_spectrum_17 : decode cX6_spectrum 17 = .ok (.iload_n 1, 1) := by decide +kernel
theorem dX6_spectrum_18 : decode cX6_spectrum 18 = .ok (.invokevirtual 120, 3) := by decide +kernel
theorem dX6_spectrum_21 : decode cX6_spectrum 21 = .ok (.lmul, 1) := by decide +kernel
theorem dX6_spectrum_22 : decode cX6_spectrum 22 = .ok (.lsub, 1) := by decide +kernel
theorem dX6_spectrum_23 : decode cX6_spectrum 23 = .ok (.lreturn, 1) := by decide +kernel
set_option maxRecDepth 20000 in
theorem ggX6_strain_X6_a : GoodIn wsX6_strain wsX6_a := goodIn_r _ [5, 6, 7, 12, 13, 14, 15, 16, 17, 18, 19, 20, 21, 22, 23, 24, 25, 26, 27, 28, 29] (by decide +kernel) (by decide +kernel)
set_option maxRecDepth 20000 in
theorem gX6_strain_X6_a : GoodIn wsX6_strain (wsV RX6 117 RX6 yX6_a wsX6_a) := goodIn_app (goodIn_of _ (by decide +kernel)) ggX6_strain_X6_a
set_option maxRecDepth 20000 in
theorem ggX6_strain_X6_b : GoodIn wsX6_strain wsX6_b := goodIn_r _ [11, 6, 12, 13, 14, 15, 16, 17, 18, 19, 20, 21, 22, 23, 24, 25, 26, 27, 28, 29] (by decide +kernel) (by decide +kernel)
set_option maxRecDepth 20000 in
theorem gX6_strain_X6_b : GoodIn wsX6_strain (wsV RX6 120 RX6 yX6_b wsX6_b) := goodIn_app (goodIn_of _ (by decide +kernel)) ggX6_strain_X6_b
theorem dX6_strain_0 : decode cX6_strain 0 = .ok (.aload_n 0, 1) := by decide +kernel
theorem dX6_strain_1 : decode cX6_strain 1 = .ok (.iload_n 1, 1) := by decide +kernel
theorem dX6_strain_2 : decode cX6_strain 2 = .ok (.invokevirtual 117, 3) := by decide +kernel
theorem dX6_strain_5 : decode cX6_strain 5 = .ok (.aload_n 0, 1) := by decide +kernel
theorem dX6_strain_6 : decode cX6_strain 6 = .ok (.iload_n 2, 1) := by decide +kernel
theorem dX6_strain_7 : decode cX6_strain 7 = .ok (.invokevirtual 120, 3) := by decide +kernel
theorem dX6_strain_10 : decode cX6_strain 10 = .ok (.lmul, 1) := by decide +kernel
theorem dX6_strain_11 : decode cX6_strain 11 = .ok (.aload_n 0, 1) := by decide +kernel
theorem dX6_strain_12 : decode cX6_strain 12 = .ok (.iload_n 2, 1) := by decide +kernel
theorem dX6_strain_13 : decode cX6_strain 13 = .ok (.invokevirtual 117, 3) := by decide +kernel
theorem dX6_strain_16 : decode cX6_strain 16 = .ok (.aload_n 0, 1) := by decide +kernel
theorem dX6_strain_17 : decode cX6_strain 17 = .ok (.iload_n 1, 1) := by decide +kernel
theorem dX6_strain_18 : decode cX6_strain 18 = .ok (.invokevirtual 120, 3) := by decide +kernel
theorem dX6_strain_21 : decode cX6_strain 21 = .ok (.lmul, 1) := by decide +kernel
theorem dX6_strain_22 : decode cX6_strain 22 = .ok (.ladd, 1) := by decide +kernel
theorem dX6_strain_23 : decode cX6_strain 23 = .ok (.lreturn, 1) := by decide +kernel
set_option maxRecDepth 20000 in
theorem ggX6_doubletPower_X6_isGlass : GoodIn wsX6_doubletPower wsX6_isGlass := goodIn_r _ [11, 12, 13, 14, 10, 15, 33, 34, 35, 36, 37, 38, 39, 40, 41, 42, 43, 44, 45, 46, 47, 48, 49, 50] (by decide +kernel) (by decide +kernel)
set_option maxRecDepth 20000 in
theorem gX6_doubletPower_X6_isGlass : GoodIn wsX6_doubletPower (wsV RX6 100 RX6 yX6_isGlass wsX6_isGlass) := goodIn_app (goodIn_of _ (by decide +kernel)) ggX6_doubletPower_X6_isGlass
set_option maxRecDepth 20000 in
theorem ggX6_doubletPower_X6_within : GoodIn wsX6_doubletPower wsX6_within := goodIn_r _ [15] (by decide +kernel) (by decide +kernel)
set_option maxRecDepth 20000 in
theorem gX6_doubletPower_X6_within : GoodIn wsX6_doubletPower (va_wsS RX6 39 yX6_within wsX6_within) := goodIn_app (goodIn_of _ (by decide +kernel)) ggX6_doubletPower_X6_within
set_option maxRecDepth 20000 in
theorem ggX6_doubletPower_X6_a : GoodIn wsX6_doubletPower wsX6_a := goodIn_r _ [19, 20, 21, 33, 34, 35, 36, 37, 38, 39, 40, 41, 42, 43, 44, 45, 46, 47, 48, 49, 50] (by decide +kernel) (by decide +kernel)
set_option maxRecDepth 20000 in
theorem gX6_doubletPower_X6_a : GoodIn wsX6_doubletPower (wsV RX6 117 RX6 yX6_a wsX6_a) := goodIn_app (goodIn_of _ (by decide +kernel)) ggX6_doubletPower_X6_a
set_option maxRecDepth 20000 in
theorem ggX6_doubletPower_X6_b : GoodIn wsX6_doubletPower wsX6_b := goodIn_r _ [25, 20, 33, 34, 35, 36, 37, 38, 39, 40, 41, 42, 43, 44, 45, 46, 47, 48, 49, 50] (by decide +kernel) (by decide +kernel)
set_option maxRecDepth 20000 in
theorem gX6_doubletPower_X6_b : GoodIn wsX6_doubletPower (wsV RX6 120 RX6 yX6_b wsX6_b) := goodIn_app (goodIn_of _ (by decide +kernel)) ggX6_doubletPower_X6_b
set_option maxRecDepth 20000 in
theorem ggX6_doubletPower_X6_e : GoodIn wsX6_doubletPower wsX6_e := goodIn_r _ [29, 16, 17, 18, 10, 19, 20, 21, 22, 23, 24, 25, 33, 34, 35, 36, 37, 38, 39, 40, 41, 42, 43, 44, 45, 46, 47, 48, 49, 50] (by decide +kernel) (by decide +kernel)
set_option maxRecDepth 20000 in
theorem gX6_doubletPower_X6_e : GoodIn wsX6_doubletPower (wsV RX6 140 RX6 yX6_e wsX6_e) := goodIn_app (goodIn_of _ (by decide +kernel)) ggX6_doubletPower_X6_e
set_option maxRecDepth 20000 in
theorem ggX6_doubletPower_X6_floor : GoodIn wsX6_doubletPower wsX6_floor := goodIn_r _ [32] (by decide +kernel) (by decide +kernel)
set_option maxRecDepth 20000 in
theorem gX6_doubletPower_X6_floor : GoodIn wsX6_doubletPower (va_wsS RX6 144 yX6_floor wsX6_floor) := goodIn_app (goodIn_of _ (by decide +kernel)) ggX6_doubletPower_X6_floor
theorem dX6_doubletPower_0 : decode cX6_doubletPower 0 = .ok (.aload_n 0, 1) := by decide +kernel
theorem dX6_doubletPower_1 : decode cX6_doubletPower 1 = .ok (.iload_n 1, 1) := by decide +kernel
theorem dX6_doubletPower_2 : decode cX6_doubletPower 2 = .ok (.invokevirtual 100, 3) := by decide +kernel
theorem dX6_doubletPower_5 : decode cX6_doubletPower 5 = .ok (.ifCond .eq 11, 3) := by decide +kernel
theorem dX6_doubletPower_8 : decode cX6_doubletPower 8 = .ok (.aload_n 0, 1) := by decide +kernel
theorem dX6_doubletPower_9 : decode cX6_doubletPower 9 = .ok (.iload_n 2, 1) := by decide +kernel
theorem dX6_doubletPower_10 : decode cX6_doubletPower 10 = .ok (.invokevirtual 100, 3) := by decide +kernel
theorem dX6_doubletPower_13 : decode cX6_doubletPower 13 = .ok (.ifCond .ne 7, 3) := by decide +kernel
theorem dX6_doubletPower_16 : decode cX6_doubletPower 16 = .ok (.ldc2_w 104, 3) := by decide +kernel
theorem dX6_doubletPower_19 : decode cX6_doubletPower 19 = .ok (.lreturn, 1) := by decide +kernel
theorem dX6_doubletPower_20 : decode cX6_doubletPower 20 = .ok (.iload_n 3, 1) := by decide +kernel
theorem dX6_doubletPower_21 : decode cX6_doubletPower 21 = .ok (.i2l, 1) := by decide +kernel
theorem dX6_doubletPower_22 : decode cX6_doubletPower 22 = .ok (.ldc2_w 136, 3) := by decide +kernel
theorem dX6_doubletPower_25 : decode cX6_doubletPower 25 = .ok (.ldc2_w 138, 3) := by decide +kernel
theorem dX6_doubletPower_28 : decode cX6_doubletPower 28 = .ok (.invokestatic 39, 3) := by decide +kernel
theorem dX6_doubletPower_31 : decode cX6_doubletPower 31 = .ok (.ifCond .eq 14, 3) := by decide +kernel
theorem dX6_doubletPower_34 : decode cX6_doubletPower 34 = .ok (.iload 4, 2) := by decide +kernel
theorem dX6_doubletPower_36 : decode cX6_doubletPower 36 = .ok (.i2l, 1) := by decide +kernel
theorem dX6_doubletPower_37 : decode cX6_doubletPower 37 = .ok (.lconst 0, 1) := by decide +kernel
theorem dX6_doubletPower_38 : decode cX6_doubletPower 38 = .ok (.lconst 1, 1) := by decide +kernel
theorem dX6_doubletPower_39 : decode cX6_doubletPower 39 = .ok (.invokestatic 39, 3) := by decide +kernel
theorem dX6_doubletPower_42 : decode cX6_doubletPower 42 = .ok (.ifCond .ne 7, 3) := by decide +kernel
theorem dX6_doubletPower_45 : decode cX6_doubletPower 45 = .ok (.ldc2_w 53, 3) := by decide +kernel
theorem dX6_doubletPower_48 : decode cX6_doubletPower 48 = .ok (.lreturn, 1) := by decide +kernel
theorem dX6_doubletPower_49 : decode cX6_doubletPower 49 = .ok (.iload 4, 2) := by decide +kernel
theorem dX6_doubletPower_51 : decode cX6_doubletPower 51 = .ok (.ifCond .ne 17, 3) := by decide +kernel
theorem dX6_doubletPower_54 : decode cX6_doubletPower 54 = .ok (.aload_n 0, 1) := by decide +kernel
theorem dX6_doubletPower_55 : decode cX6_doubletPower 55 = .ok (.iload_n 1, 1) := by decide +kernel
theorem dX6_doubletPower_56 : decode cX6_doubletPower 56 = .ok (.invokevirtual 117, 3) := by decide +kernel
theorem dX6_doubletPower_59 : decode cX6_doubletPower 59 = .ok (.aload_n 0, 1) := by decide +kernel
theorem dX6_doubletPower_60 : decode cX6_doubletPower 60 = .ok (.iload_n 2, 1) := by decide +kernel
theorem dX6_doubletPower_61 : decode cX6_doubletPower 61 = .ok (.invokevirtual 120, 3) := by decide +kernel
theorem dX6_doubletPower_64 : decode cX6_doubletPower 64 = .ok (.lmul, 1) := by decide +kernel
theorem dX6_doubletPower_65 : decode cX6_doubletPower 65 = .ok (.goto 15, 3) := by decide +kernel
theorem dX6_doubletPower_68 : decode cX6_doubletPower 68 = .ok (.aload_n 0, 1) := by decide +kernel
theorem dX6_doubletPower_69 : decode cX6_doubletPower 69 = .ok (.iload_n 2, 1) := by decide +kernel
theorem dX6_doubletPower_70 : decode cX6_doubletPower 70 = .ok (.invokevirtual 117, 3) := by decide +kernel
theorem dX6_doubletPower_73 : decode cX6_doubletPower 73 = .ok (.lneg, 1) := by decide +kernel
theorem dX6_doubletPower_74 : decode cX6_doubletPower 74 = .ok (.aload_n 0, 1) := by decide +kernel
theorem dX6_doubletPower_75 : decode cX6_doubletPower 75 = .ok (.iload_n 1, 1) := by decide +kernel
theorem dX6_doubletPower_76 : decode cX6_doubletPower 76 = .ok (.invokevirtual 120, 3) := by decide +kernel
theorem dX6_doubletPower_79 : decode cX6_doubletPower 79 = .ok (.lmul, 1) := by decide +kernel
theorem dX6_doubletPower_80 : decode cX6_doubletPower 80 = .ok (.lstore 5, 2) := by decide +kernel
theorem dX6_doubletPower_82 : decode cX6_doubletPower 82 = .ok (.aload_n 0, 1) := by decide +kernel
theorem dX6_doubletPower_83 : decode cX6_doubletPower 83 = .ok (.iload_n 1, 1) := by decide +kernel
theorem dX6_doubletPower_84 : decode cX6_doubletPower 84 = .ok (.iload_n 2, 1) := by decide +kernel
theorem dX6_doubletPower_85 : decode cX6_doubletPower 85 = .ok (.invokevirtual 140, 3) := by decide +kernel
theorem dX6_doubletPower_88 : decode cX6_doubletPower 88 = .ok (.lstore 7, 2) := by decide +kernel
theorem dX6_doubletPower_90 : decode cX6_doubletPower 90 = .ok (.lload 7, 2) := by decide +kernel
theorem dX6_doubletPower_92 : decode cX6_doubletPower 92 = .ok (.lconst 0, 1) := by decide +kernel
theorem dX6_doubletPower_93 : decode cX6_doubletPower 93 = .ok (.lcmp, 1) := by decide +kernel
theorem dX6_doubletPower_94 : decode cX6_doubletPower 94 = .ok (.ifCond .ne 9, 3) := by decide +kernel
theorem dX6_doubletPower_97 : decode cX6_doubletPower 97 = .ok (.ldc2_w 134, 3) := by decide +kernel
theorem dX6_doubletPower_100 : decode cX6_doubletPower 100 = .ok (.goto 17, 3) := by decide +kernel
theorem dX6_doubletPower_103 : decode cX6_doubletPower 103 = .ok (.ldc2_w 115, 3) := by decide +kernel
theorem dX6_doubletPower_106 : decode cX6_doubletPower 106 = .ok (.iload_n 3, 1) := by decide +kernel
theorem dX6_doubletPower_107 : decode cX6_doubletPower 107 = .ok (.i2l, 1) := by decide +kernel
theorem dX6_doubletPower_108 : decode cX6_doubletPower 108 = .ok (.lmul, 1) := by decide +kernel
theorem dX6_doubletPower_109 : decode cX6_doubletPower 109 = .ok (.lload 5, 2) := by decide +kernel
theorem dX6_doubletPower_111 : decode cX6_doubletPower 111 = .ok (.lmul, 1) := by decide +kernel
theorem dX6_doubletPower_112 : decode cX6_doubletPower 112 = .ok (.lload 7, 2) := by decide +kernel
theorem dX6_doubletPower_114 : decode cX6_doubletPower 114 = .ok (.invokestatic 144, 3) := by decide +kernel
theorem dX6_doubletPower_117 : decode cX6_doubletPower 117 = .ok (.lreturn, 1) := by decide +kernel
set_option maxRecDepth 20000 in
theorem ggX6_secondarySpectrum_X6_isGlass : GoodIn wsX6_secondarySpectrum wsX6_isGlass := goodIn_r _ [11, 12, 13, 14, 10, 15, 41, 42, 43, 44, 45, 46, 47, 48, 49, 50, 51, 52, 53, 54, 55, 56, 57, 58] (by decide +kernel) (by decide +kernel)
set_option maxRecDepth 20000 in
theorem gX6_secondarySpectrum_X6_isGlass : GoodIn wsX6_secondarySpectrum (wsV RX6 100 RX6 yX6_isGlass wsX6_isGlass) := goodIn_app (goodIn_of _ (by decide +kernel)) ggX6_secondarySpectrum_X6_isGlass
set_option maxRecDepth 20000 in
theorem ggX6_secondarySpectrum_X6_within : GoodIn wsX6_secondarySpectrum wsX6_within := goodIn_r _ [15] (by decide +kernel) (by decide +kernel)
set_option maxRecDepth 20000 in
theorem gX6_secondarySpectrum_X6_within : GoodIn wsX6_secondarySpectrum (va_wsS RX6 39 yX6_within wsX6_within) := goodIn_app (goodIn_of _ (by decide +kernel)) ggX6_secondarySpectrum_X6_within
set_option maxRecDepth 20000 in
theorem ggX6_secondarySpectrum_X6_e : GoodIn wsX6_secondarySpectrum wsX6_e := goodIn_r _ [19, 20, 21, 22, 10, 23, 24, 25, 26, 27, 28, 29, 41, 42, 43, 44, 45, 46, 47, 48, 49, 50, 51, 52, 53, 54, 55, 56, 57, 58] (by decide +kernel) (by decide +kernel)
set_option maxRecDepth 20000 in
theorem gX6_secondarySpectrum_X6_e : GoodIn wsX6_secondarySpectrum (wsV RX6 140 RX6 yX6_e wsX6_e) := goodIn_app (goodIn_of _ (by decide +kernel)) ggX6_secondarySpectrum_X6_e
set_option maxRecDepth 20000 in
theorem ggX6_secondarySpectrum_X6_spectrum : GoodIn wsX6_secondarySpectrum wsX6_spectrum := goodIn_r _ [33, 34, 35, 36, 10, 37, 24, 26, 27, 28, 29, 41, 42, 43, 44, 45, 46, 47, 48, 49, 50, 51, 52, 53, 54, 55, 56, 57, 58] (by decide +kernel) (by decide +kernel)
set_option maxRecDepth 20000 in
theorem gX6_secondarySpectrum_X6_spectrum : GoodIn wsX6_secondarySpectrum (wsV RX6 150 RX6 yX6_spectrum wsX6_spectrum) := goodIn_app (goodIn_of _ (by decide +kernel)) ggX6_secondarySpectrum_X6_spectrum
set_option maxRecDepth 20000 in
theorem ggX6_secondarySpectrum_X6_floor : GoodIn wsX6_secondarySpectrum wsX6_floor := goodIn_r _ [40] (by decide +kernel) (by decide +kernel)
set_option maxRecDepth 20000 in
theorem gX6_secondarySpectrum_X6_floor : GoodIn wsX6_secondarySpectrum (va_wsS RX6 144 yX6_floor wsX6_floor) := goodIn_app (goodIn_of _ (by decide +kernel)) ggX6_secondarySpectrum_X6_floor
theorem dX6_secondarySpectrum_0 : decode cX6_secondarySpectrum 0 = .ok (.aload_n 0, 1) := by decide +kernel
theorem dX6_secondarySpectrum_1 : decode cX6_secondarySpectrum 1 = .ok (.iload_n 1, 1) := by decide +kernel
theorem dX6_secondarySpectrum_2 : decode cX6_secondarySpectrum 2 = .ok (.invokevirtual 100, 3) := by decide +kernel
theorem dX6_secondarySpectrum_5 : decode cX6_secondarySpectrum 5 = .ok (.ifCond .eq 11, 3) := by decide +kernel
theorem dX6_secondarySpectrum_8 : decode cX6_secondarySpectrum 8 = .ok (.aload_n 0, 1) := by decide +kernel
theorem dX6_secondarySpectrum_9 : decode cX6_secondarySpectrum 9 = .ok (.iload_n 2, 1) := by decide +kernel
theorem dX6_secondarySpectrum_10 : decode cX6_secondarySpectrum 10 = .ok (.invokevirtual 100, 3) := by decide +kernel
theorem dX6_secondarySpectrum_13 : decode cX6_secondarySpectrum 13 = .ok (.ifCond .ne 7, 3) := by decide +kernel
theorem dX6_secondarySpectrum_16 : decode cX6_secondarySpectrum 16 = .ok (.ldc2_w 104, 3) := by decide +kernel
theorem dX6_secondarySpectrum_19 : decode cX6_secondarySpectrum 19 = .ok (.lreturn, 1) := by decide +kernel
theorem dX6_secondarySpectrum_20 : decode cX6_secondarySpectrum 20 = .ok (.iload_n 3, 1) := by decide +kernel
theorem dX6_secondarySpectrum_21 : decode cX6_secondarySpectrum 21 = .ok (.i2l, 1) := by decide +kernel
theorem dX6_secondarySpectrum_22 : decode cX6_secondarySpectrum 22 = .ok (.ldc2_w 136, 3) := by decide +kernel
theorem dX6_secondarySpectrum_25 : decode cX6_secondarySpectrum 25 = .ok (.ldc2_w 138, 3) := by decide +kernel
theorem dX6_secondarySpectrum_28 : decode cX6_secondarySpectrum 28 = .ok (.invokestatic 39, 3) := by decide +kernel
theorem dX6_secondarySpectrum_31 : decode cX6_secondarySpectrum 31 = .ok (.ifCond .ne 7, 3) := by decide +kernel
theorem dX6_secondarySpectrum_34 : decode cX6_secondarySpectrum 34 = .ok (.ldc2_w 53, 3) := by decide +kernel
theorem dX6_secondarySpectrum_37 : decode cX6_secondarySpectrum 37 = .ok (.lreturn, 1) := by decide +kernel
theorem dX6_secondarySpectrum_38 : decode cX6_secondarySpectrum 38 = .ok (.aload_n 0, 1) := by decide +kernel
theorem dX6_secondarySpectrum_39 : decode cX6_secondarySpectrum 39 = .ok (.iload_n 1, 1) := by decide +kernel
theorem dX6_secondarySpectrum_40 : decode cX6_secondarySpectrum 40 = .ok (.iload_n 2, 1) := by decide +kernel
theorem dX6_secondarySpectrum_41 : decode cX6_secondarySpectrum 41 = .ok (.invokevirtual 140, 3) := by decide +kernel
theorem dX6_secondarySpectrum_44 : decode cX6_secondarySpectrum 44 = .ok (.lstore 4, 2) := by decide +kernel
theorem dX6_secondarySpectrum_46 : decode cX6_secondarySpectrum 46 = .ok (.lload 4, 2) := by decide +kernel
theorem dX6_secondarySpectrum_48 : decode cX6_secondarySpectrum 48 = .ok (.lconst 0, 1) := by decide +kernel
theorem dX6_secondarySpectrum_49 : decode cX6_secondarySpectrum 49 = .ok (.lcmp, 1) := by decide +kernel
theorem dX6_secondarySpectrum_50 : decode cX6_secondarySpectrum 50 = .ok (.ifCond .ne 9, 3) := by decide +kernel
theorem dX6_secondarySpectrum_53 : decode cX6_secondarySpectrum 53 = .ok (.ldc2_w 134, 3) := by decide +kernel
theorem dX6_secondarySpectrum_56 : decode cX6_secondarySpectrum 56 = .ok (.goto 21, 3) := by decide +kernel
theorem dX6_secondarySpectrum_59 : decode cX6_secondarySpectrum 59 = .ok (.ldc2_w 148, 3) := by decide +kernel
theorem dX6_secondarySpectrum_62 : decode cX6_secondarySpectrum 62 = .ok (.iload_n 3, 1) := by decide +kernel
theorem dX6_secondarySpectrum_63 : decode cX6_secondarySpectrum 63 = .ok (.i2l, 1) := by decide +kernel
theorem dX6_secondarySpectrum_64 : decode cX6_secondarySpectrum 64 = .ok (.lmul, 1) := by decide +kernel
theorem dX6_secondarySpectrum_65 : decode cX6_secondarySpectrum 65 = .ok (.aload_n 0, 1) := by decide +kernel
theorem dX6_secondarySpectrum_66 : decode cX6_secondarySpectrum 66 = .ok (.iload_n 1, 1) := by decide +kernel
theorem dX6_secondarySpectrum_67 : decode cX6_secondarySpectrum 67 = .ok (.iload_n 2, 1) := by decide +kernel
theorem dX6_secondarySpectrum_68 : decode cX6_secondarySpectrum 68 = .ok (.invokevirtual 150, 3) := by decide +kernel
theorem dX6_secondarySpectrum_71 : decode cX6_secondarySpectrum 71 = .ok (.lmul, 1) := by decide +kernel
theorem dX6_secondarySpectrum_72 : decode cX6_secondarySpectrum 72 = .ok (.lload 4, 2) := by decide +kernel
theorem dX6_secondarySpectrum_74 : decode cX6_secondarySpectrum 74 = .ok (.invokestatic 144, 3) := by decide +kernel
theorem dX6_secondarySpectrum_77 : decode cX6_secondarySpectrum 77 = .ok (.lreturn, 1) := by decide +kernel
set_option maxRecDepth 20000 in
theorem ggX6_isDoublet_X6_e : GoodIn wsX6_isDoublet wsX6_e := goodIn_r _ [5, 6, 7, 8, 4, 9, 10, 11, 12, 13, 14, 15, 16, 17, 18, 19, 20, 21, 22, 23, 24, 25, 26, 27, 28, 29, 30, 31, 32, 33] (by decide +kernel) (by decide +kernel)
set_option maxRecDepth 20000 in
theorem gX6_isDoublet_X6_e : GoodIn wsX6_isDoublet (wsV RX6 140 RX6 yX6_e wsX6_e) := goodIn_app (goodIn_of _ (by decide +kernel)) ggX6_isDoublet_X6_e
theorem dX6_isDoublet_0 : decode cX6_isDoublet 0 = .ok (.iload_n 1, 1) := by decide +kernel
theorem dX6_isDoublet_1 : decode cX6_isDoublet 1 = .ok (.iload_n 2, 1) := by decide +kernel
theorem dX6_isDoublet_2 : decode cX6_isDoublet 2 = .ok (.if_icmp .eq 18, 3) := by decide +kernel
theorem dX6_isDoublet_5 : decode cX6_isDoublet 5 = .ok (.aload_n 0, 1) := by decide +kernel
theorem dX6_isDoublet_6 : decode cX6_isDoublet 6 = .ok (.iload_n 1, 1) := by decide +kernel
theorem dX6_isDoublet_7 : decode cX6_isDoublet 7 = .ok (.iload_n 2, 1) := by decide +kernel
theorem dX6_isDoublet_8 : decode cX6_isDoublet 8 = .ok (.invokevirtual 140, 3) := by decide +kernel
theorem dX6_isDoublet_11 : decode cX6_isDoublet 11 = .ok (.lconst 0, 1) := by decide +kernel
theorem dX6_isDoublet_12 : decode cX6_isDoublet 12 = .ok (.lcmp, 1) := by decide +kernel
theorem dX6_isDoublet_13 : decode cX6_isDoublet 13 = .ok (.ifCond .le 7, 3) := by decide +kernel
theorem dX6_isDoublet_16 : decode cX6_isDoublet 16 = .ok (.iconst 1, 1) := by decide +kernel
theorem dX6_isDoublet_17 : decode cX6_isDoublet 17 = .ok (.goto 4, 3) := by decide +kernel
theorem dX6_isDoublet_20 : decode cX6_isDoublet 20 = .ok (.iconst 0, 1) := by decide +kernel
theorem dX6_isDoublet_21 : decode cX6_isDoublet 21 = .ok (.ireturn, 1) := by decide +kernel
theorem dX6_compare_0 : decode cX6_compare 0 = .ok (.lload_n 0, 1) := by decide +kernel
theorem dX6_compare_1 : decode cX6_compare 1 = .ok (.lload 6, 2) := by decide +kernel
theorem dX6_compare_3 : decode cX6_compare 3 = .ok (.lmul, 1) := by decide +kernel
theorem dX6_compare_4 : decode cX6_compare 4 = .ok (.lload 4, 2) := by decide +kernel
theorem dX6_compare_6 : decode cX6_compare 6 = .ok (.lload_n 2, 1) := by decide +kernel
theorem dX6_compare_7 : decode cX6_compare 7 = .ok (.lmul, 1) := by decide +kernel
theorem dX6_compare_8 : decode cX6_compare 8 = .ok (.lsub, 1) := by decide +kernel
theorem dX6_compare_9 : decode cX6_compare 9 = .ok (.lreturn, 1) := by decide +kernel
set_option maxRecDepth 20000 in
theorem ggX6_isBefore_X6_spectrum : GoodIn wsX6_isBefore wsX6_spectrum := goodIn_r _ [5, 6, 7, 8, 4, 9, 10, 11, 12, 13, 14, 34, 35, 36, 37, 38, 39, 40, 41, 42, 43, 44, 45, 46, 47, 48, 49, 50, 51] (by decide +kernel) (by decide +kernel)
set_option maxRecDepth 20000 in
theorem gX6_isBefore_X6_spectrum : GoodIn wsX6_isBefore (wsV RX6 150 RX6 yX6_spectrum wsX6_spectrum) := goodIn_app (goodIn_of _ (by decide +kernel)) ggX6_isBefore_X6_spectrum
set_option maxRecDepth 20000 in
theorem ggX6_isBefore_X6_size : GoodIn wsX6_isBefore wsX6_size := goodIn_r _ [17] (by decide +kernel) (by decide +kernel)
set_option maxRecDepth 20000 in
theorem gX6_isBefore_X6_size : GoodIn wsX6_isBefore (va_wsS RX6 153 yX6_size wsX6_size) := goodIn_app (goodIn_of _ (by decide +kernel)) ggX6_isBefore_X6_size
set_option maxRecDepth 20000 in
theorem ggX6_isBefore_X6_e : GoodIn wsX6_isBefore wsX6_e := goodIn_r _ [21, 22, 23, 24, 4, 25, 10, 26, 11, 12, 13, 14, 34, 35, 36, 37, 38, 39, 40, 41, 42, 43, 44, 45, 46, 47, 48, 49, 50, 51] (by decide +kernel) (by decide +kernel)
set_option maxRecDepth 20000 in
theorem gX6_isBefore_X6_e : GoodIn wsX6_isBefore (wsV RX6 140 RX6 yX6_e wsX6_e) := goodIn_app (goodIn_of _ (by decide +kernel)) ggX6_isBefore_X6_e
set_option maxRecDepth 20000 in
theorem ggX6_isBefore_X6_compare : GoodIn wsX6_isBefore wsX6_compare := goodIn_r _ [29] (by decide +kernel) (by decide +kernel)
set_option maxRecDepth 20000 in
theorem gX6_isBefore_X6_compare : GoodIn wsX6_isBefore (va_wsS RX6 157 yX6_compare wsX6_compare) := goodIn_app (goodIn_of _ (by decide +kernel)) ggX6_isBefore_X6_compare
set_option maxRecDepth 20000 in
theorem ggX6_isBefore_X6_strain : GoodIn wsX6_isBefore wsX6_strain := goodIn_r _ [33, 22, 23, 24, 4, 25, 10, 26, 11, 12, 13, 14, 34, 35, 36, 37, 38, 39, 40, 41, 42, 43, 44, 45, 46, 47, 48, 49, 50, 51] (by decide +kernel) (by decide +kernel)
set_option maxRecDepth 20000 in
theorem gX6_isBefore_X6_strain : GoodIn wsX6_isBefore (wsV RX6 161 RX6 yX6_strain wsX6_strain) := goodIn_app (goodIn_of _ (by decide +kernel)) ggX6_isBefore_X6_strain
theorem dX6_isBefore_0 : decode cX6_isBefore 0 = .ok (.aload_n 0, 1) := by decide +kernel
theorem dX6_isBefore_1 : decode cX6_isBefore 1 = .ok (.iload_n 1, 1) := by decide +kernel
theorem dX6_isBefore_2 : decode cX6_isBefore 2 = .ok (.iload_n 2, 1) := by decide +kernel
theorem dX6_isBefore_3 : decode cX6_isBefore 3 = .ok (.invokevirtual 150, 3) := by decide +kernel
theorem dX6_isBefore_6 : decode cX6_isBefore 6 = .ok (.invokestatic 153, 3) := by decide +kernel
theorem dX6_isBefore_9 : decode cX6_isBefore 9 = .ok (.aload_n 0, 1) := by decide +kernel
theorem dX6_isBefore_10 : decode cX6_isBefore 10 = .ok (.iload_n 1, 1) := by decide +kernel
theorem dX6_isBefore_11 : decode cX6_isBefore 11 = .ok (.iload_n 2, 1) := by decide +kernel
theorem dX6_isBefore_12 : decode cX6_isBefore 12 = .ok (.invokevirtual 140, 3) := by decide +kernel
theorem dX6_isBefore_15 : decode cX6_isBefore 15 = .ok (.aload_n 0, 1) := by decide +kernel
theorem dX6_isBefore_16 : decode cX6_isBefore 16 = .ok (.iload_n 3, 1) := by decide +kernel
theorem dX6_isBefore_17 : decode cX6_isBefore 17 = .ok (.iload 4, 2) := by decide +kernel
theorem dX6_isBefore_19 : decode cX6_isBefore 19 = .ok (.invokevirtual 150, 3) := by decide +kernel
theorem dX6_isBefore_22 : decode cX6_isBefore 22 = .ok (.invokestatic 153, 3) := by decide +kernel
theorem dX6_isBefore_25 : decode cX6_isBefore 25 = .ok (.aload_n 0, 1) := by decide +kernel
theorem dX6_isBefore_26 : decode cX6_isBefore 26 = .ok (.iload_n 3, 1) := by decide +kernel
theorem dX6_isBefore_27 : decode cX6_isBefore 27 = .ok (.iload 4, 2) := by decide +kernel
theorem dX6_isBefore_29 : decode cX6_isBefore 29 = .ok (.invokevirtual 140, 3) := by decide +kernel
theorem dX6_isBefore_32 : decode cX6_isBefore 32 = .ok (.invokestatic 157, 3) := by decide +kernel
theorem dX6_isBefore_35 : decode cX6_isBefore 35 = .ok (.lstore 6, 2) := by decide +kernel
theorem dX6_isBefore_37 : decode cX6_isBefore 37 = .ok (.aload_n 0, 1) := by decide +kernel
theorem dX6_isBefore_38 : decode cX6_isBefore 38 = .ok (.iload_n 1, 1) := by decide +kernel
theorem dX6_isBefore_39 : decode cX6_isBefore 39 = .ok (.iload_n 2, 1) := by decide +kernel
theorem dX6_isBefore_40 : decode cX6_isBefore 40 = .ok (.invokevirtual 161, 3) := by decide +kernel
theorem dX6_isBefore_43 : decode cX6_isBefore 43 = .ok (.aload_n 0, 1) := by decide +kernel
theorem dX6_isBefore_44 : decode cX6_isBefore 44 = .ok (.iload_n 1, 1) := by decide +kernel
theorem dX6_isBefore_45 : decode cX6_isBefore 45 = .ok (.iload_n 2, 1) := by decide +kernel
theorem dX6_isBefore_46 : decode cX6_isBefore 46 = .ok (.invokevirtual 140, 3) := by decide +kernel
theorem dX6_isBefore_49 : decode cX6_isBefore 49 = .ok (.aload_n 0, 1) := by decide +kernel
theorem dX6_isBefore_50 : decode cX6_isBefore 50 = .ok (.iload_n 3, 1) := by decide +kernel
theorem dX6_isBefore_51 : decode cX6_isBefore 51 = .ok (.iload 4, 2) := by decide +kernel
theorem dX6_isBefore_53 : decode cX6_isBefore 53 = .ok (.invokevirtual 161, 3) := by decide +kernel
theorem dX6_isBefore_56 : decode cX6_isBefore 56 = .ok (.aload_n 0, 1) := by decide +kernel
theorem dX6_isBefore_57 : decode cX6_isBefore 57 = .ok (.iload_n 3, 1) := by decide +kernel
theorem dX6_isBefore_58 : decode cX6_isBefore 58 = .ok (.iload 4, 2) := by decide +kernel
theorem dX6_isBefore_60 : decode cX6_isBefore 60 = .ok (.invokevirtual 140, 3) := by decide +kernel
theorem dX6_isBefore_63 : decode cX6_isBefore 63 = .ok (.invokestatic 157, 3) := by decide +kernel
theorem dX6_isBefore_66 : decode cX6_isBefore 66 = .ok (.lstore 8, 2) := by decide +kernel
theorem dX6_isBefore_68 : decode cX6_isBefore 68 = .ok (.iload 5, 2) := by decide +kernel
theorem dX6_isBefore_70 : decode cX6_isBefore 70 = .ok (.ifCond .eq 8, 3) := by decide +kernel
theorem dX6_isBefore_73 : decode cX6_isBefore 73 = .ok (.lload 8, 2) := by decide +kernel
theorem dX6_isBefore_75 : decode cX6_isBefore 75 = .ok (.goto 5, 3) := by decide +kernel
theorem dX6_isBefore_78 : decode cX6_isBefore 78 = .ok (.lload 6, 2) := by decide +kernel
theorem dX6_isBefore_80 : decode cX6_isBefore 80 = .ok (.lstore 10, 2) := by decide +kernel
theorem dX6_isBefore_82 : decode cX6_isBefore 82 = .ok (.iload 5, 2) := by decide +kernel
theorem dX6_isBefore_84 : decode cX6_isBefore 84 = .ok (.ifCond .eq 8, 3) := by decide +kernel
theorem dX6_isBefore_87 : decode cX6_isBefore 87 = .ok (.lload 6, 2) := by decide +kernel
theorem dX6_isBefore_89 : decode cX6_isBefore 89 = .ok (.goto 5, 3) := by decide +kernel
theorem dX6_isBefore_92 : decode cX6_isBefore 92 = .ok (.lload 8, 2) := by decide +kernel
theorem dX6_isBefore_94 : decode cX6_isBefore 94 = .ok (.lstore 12, 2) := by decide +kernel
theorem dX6_isBefore_96 : decode cX6_isBefore 96 = .ok (.lload 10, 2) := by decide +kernel
theorem dX6_isBefore_98 : decode cX6_isBefore 98 = .ok (.lconst 0, 1) := by decide +kernel
theorem dX6_isBefore_99 : decode cX6_isBefore 99 = .ok (.lcmp, 1) := by decide +kernel
theorem dX6_isBefore_100 : decode cX6_isBefore 100 = .ok (.ifCond .eq 16, 3) := by decide +kernel
theorem dX6_isBefore_103 : decode cX6_isBefore 103 = .ok (.lload 10, 2) := by decide +kernel
theorem dX6_isBefore_105 : decode cX6_isBefore 105 = .ok (.lconst 0, 1) := by decide +kernel
theorem dX6_isBefore_106 : decode cX6_isBefore 106 = .ok (.lcmp, 1) := by decide +kernel
theorem dX6_isBefore_107 : decode cX6_isBefore 107 = .ok (.ifCond .ge 7, 3) := by decide +kernel
theorem dX6_isBefore_110 : decode cX6_isBefore 110 = .ok (.iconst 1, 1) := by decide +kernel
theorem dX6_isBefore_111 : decode cX6_isBefore 111 = .ok (.goto 4, 3) := by decide +kernel
theorem dX6_isBefore_114 : decode cX6_isBefore 114 = .ok (.iconst 0, 1) := by decide +kernel
theorem dX6_isBefore_115 : decode cX6_isBefore 115 = .ok (.ireturn, 1) := by decide +kernel
theorem dX6_isBefore_116 : decode cX6_isBefore 116 = .ok (.lload 12, 2) := by decide +kernel
theorem dX6_isBefore_118 : decode cX6_isBefore 118 = .ok (.lconst 0, 1) := by decide +kernel
theorem dX6_isBefore_119 : decode cX6_isBefore 119 = .ok (.lcmp, 1) := by decide +kernel
theorem dX6_isBefore_120 : decode cX6_isBefore 120 = .ok (.ifCond .eq 16, 3) := by decide +kernel
theorem dX6_isBefore_123 : decode cX6_isBefore 123 = .ok (.lload 12, 2) := by decide +kernel
theorem dX6_isBefore_125 : decode cX6_isBefore 125 = .ok (.lconst 0, 1) := by decide +kernel
theorem dX6_isBefore_126 : decode cX6_isBefore 126 = .ok (.lcmp, 1) := by decide +kernel
theorem dX6_isBefore_127 : decode cX6_isBefore 127 = .ok (.ifCond .ge 7, 3) := by decide +kernel
theorem dX6_isBefore_130 : decode cX6_isBefore 130 = .ok (.iconst 1, 1) := by decide +kernel
theorem dX6_isBefore_131 : decode cX6_isBefore 131 = .ok (.goto 4, 3) := by decide +kernel
theorem dX6_isBefore_134 : decode cX6_isBefore 134 = .ok (.iconst 0, 1) := by decide +kernel
theorem dX6_isBefore_135 : decode cX6_isBefore 135 = .ok (.ireturn, 1) := by decide +kernel
theorem dX6_isBefore_136 : decode cX6_isBefore 136 = .ok (.iload_n 1, 1) := by decide +kernel
theorem dX6_isBefore_137 : decode cX6_isBefore 137 = .ok (.iload_n 3, 1) := by decide +kernel
theorem dX6_isBefore_138 : decode cX6_isBefore 138 = .ok (.if_icmp .ne 17, 3) := by decide +kernel
theorem dX6_isBefore_141 : decode cX6_isBefore 141 = .ok (.iload_n 2, 1) := by decide +kernel
theorem dX6_isBefore_142 : decode cX6_isBefore 142 = .ok (.iload 4, 2) := by decide +kernel
theorem dX6_isBefore_144 : decode cX6_isBefore 144 = .ok (.if_icmp .ge 7, 3) := by decide +kernel
theorem dX6_isBefore_147 : decode cX6_isBefore 147 = .ok (.iconst 1, 1) := by decide +kernel
theorem dX6_isBefore_148 : decode cX6_isBefore 148 = .ok (.goto 17, 3) := by decide +kernel
theorem dX6_isBefore_151 : decode cX6_isBefore 151 = .ok (.iconst 0, 1) := by decide +kernel
theorem dX6_isBefore_152 : decode cX6_isBefore 152 = .ok (.goto 13, 3) := by decide +kernel
theorem dX6_isBefore_155 : decode cX6_isBefore 155 = .ok (.iload_n 1, 1) := by decide +kernel
theorem dX6_isBefore_156 : decode cX6_isBefore 156 = .ok (.iload_n 3, 1) := by decide +kernel
theorem dX6_isBefore_157 : decode cX6_isBefore 157 = .ok (.if_icmp .ge 7, 3) := by decide +kernel
theorem dX6_isBefore_160 : decode cX6_isBefore 160 = .ok (.iconst 1, 1) := by decide +kernel
theorem dX6_isBefore_161 : decode cX6_isBefore 161 = .ok (.goto 4, 3) := by decide +kernel
theorem dX6_isBefore_164 : decode cX6_isBefore 164 = .ok (.iconst 0, 1) := by decide +kernel
theorem dX6_isBefore_165 : decode cX6_isBefore 165 = .ok (.ireturn, 1) := by decide +kernel
set_option maxRecDepth 20000 in
theorem ggX6_findNext_X6_isDoublet : GoodIn wsX6_findNext wsX6_isDoublet := goodIn_r _ [8, 9, 10, 11, 7, 12, 13, 14, 15, 16, 17, 18, 19, 20, 21, 22, 45, 46, 47, 48, 49, 50, 51, 52, 53, 54, 55, 56, 57, 58, 59, 60, 61, 62] (by decide +kernel) (by decide +kernel)
set_option maxRecDepth 20000 in
theorem gX6_findNext_X6_isDoublet : GoodIn wsX6_findNext (wsV RX6 164 RX6 yX6_isDoublet wsX6_isDoublet) := goodIn_app (goodIn_of _ (by decide +kernel)) ggX6_findNext_X6_isDoublet
set_option maxRecDepth 20000 in
theorem ggX6_findNext_X6_isBefore : GoodIn wsX6_findNext wsX6_isBefore := goodIn_r _ [26, 27, 28, 29, 7, 30, 31, 32, 33, 34, 17, 19, 20, 21, 22, 35, 36, 37, 9, 10, 11, 12, 13, 14, 15, 16, 18, 38, 39, 40, 41, 42, 43, 44, 45, 46, 47, 48, 49, 50, 51, 52, 53, 54, 55, 56, 57, 58, 59, 60, 61, 62] (by decide +kernel) (by decide +kernel)
set_option maxRecDepth 20000 in
theorem gX6_findNext_X6_isBefore : GoodIn wsX6_findNext (wsV RX6 174 RX6 yX6_isBefore wsX6_isBefore) := goodIn_app (goodIn_of _ (by decide +kernel)) ggX6_findNext_X6_isBefore
theorem dX6_findNext_0 : decode cX6_findNext 0 = .ok (.iconst (-1), 1) := by decide +kernel
theorem dX6_findNext_1 : decode cX6_findNext 1 = .ok (.istore_n 2, 1) := by decide +kernel
theorem dX6_findNext_2 : decode cX6_findNext 2 = .ok (.iconst (-1), 1) := by decide +kernel
theorem dX6_findNext_3 : decode cX6_findNext 3 = .ok (.istore_n 3, 1) := by decide +kernel
theorem dX6_findNext_4 : decode cX6_findNext 4 = .ok (.iconst 0, 1) := by decide +kernel
theorem dX6_findNext_5 : decode cX6_findNext 5 = .ok (.istore 4, 2) := by decide +kernel
theorem dX6_findNext_7 : decode cX6_findNext 7 = .ok (.iload 4, 2) := by decide +kernel
theorem dX6_findNext_9 : decode cX6_findNext 9 = .ok (.aload_n 0, 1) := by decide +kernel
theorem dX6_findNext_10 : decode cX6_findNext 10 = .ok (.getfield 35, 3) := by decide +kernel
theorem dX6_findNext_13 : decode cX6_findNext 13 = .ok (.if_icmp .ge 114, 3) := by decide +kernel
theorem dX6_findNext_16 : decode cX6_findNext 16 = .ok (.iconst 0, 1) := by decide +kernel
theorem dX6_findNext_17 : decode cX6_findNext 17 = .ok (.istore 5, 2) := by decide +kernel
theorem dX6_findNext_19 : decode cX6_findNext 19 = .ok (.iload 5, 2) := by decide +kernel
theorem dX6_findNext_21 : decode cX6_findNext 21 = .ok (.aload_n 0, 1) := by decide +kernel
theorem dX6_findNext_22 : decode cX6_findNext 22 = .ok (.getfield 35, 3) := by decide +kernel
theorem dX6_findNext_25 : decode cX6_findNext 25 = .ok (.if_icmp .ge 96, 3) := by decide +kernel
theorem dX6_findNext_28 : decode cX6_findNext 28 = .ok (.aload_n 0, 1) := by decide +kernel
theorem dX6_findNext_29 : decode cX6_findNext 29 = .ok (.iload 4, 2) := by decide +kernel
theorem dX6_findNext_31 : decode cX6_findNext 31 = .ok (.iload 5, 2) := by decide +kernel
theorem dX6_findNext_33 : decode cX6_findNext 33 = .ok (.invokevirtual 164, 3) := by decide +kernel
theorem dX6_findNext_36 : decode cX6_findNext 36 = .ok (.ifCond .eq 52, 3) := by decide +kernel
theorem dX6_findNext_39 : decode cX6_findNext 39 = .ok (.aload_n 0, 1) := by decide +kernel
theorem dX6_findNext_40 : decode cX6_findNext 40 = .ok (.getfield 168, 3) := by decide +kernel
theorem dX6_findNext_43 : decode cX6_findNext 43 = .ok (.ifCond .lt 23, 3) := by decide +kernel
theorem dX6_findNext_46 : decode cX6_findNext 46 = .ok (.aload_n 0, 1) := by decide +kernel
theorem dX6_findNext_47 : decode cX6_findNext 47 = .ok (.aload_n 0, 1) := by decide +kernel
theorem dX6_findNext_48 : decode cX6_findNext 48 = .ok (.getfield 168, 3) := by decide +kernel
theorem dX6_findNext_51 : decode cX6_findNext 51 = .ok (.aload_n 0, 1) := by decide +kernel
theorem dX6_findNext_52 : decode cX6_findNext 52 = .ok (.getfield 171, 3) := by decide +kernel
theorem dX6_findNext_55 : decode cX6_findNext 55 = .ok (.iload 4, 2) := by decide +kernel
theorem dX6_findNext_57 : decode cX6_findNext 57 = .ok (.iload 5, 2) := by decide +kernel
theorem dX6_findNext_59 : decode cX6_findNext 59 = .ok (.iload_n 1, 1) := by decide +kernel
theorem dX6_findNext_60 : decode cX6_findNext 60 = .ok (.invokevirtual 174, 3) := by decide +kernel
theorem dX6_findNext_63 : decode cX6_findNext 63 = .ok (.ifCond .eq 25, 3) := by decide +kernel
theorem dX6_findNext_66 : decode cX6_findNext 66 = .ok (.iload_n 2, 1) := by decide +kernel
theorem dX6_findNext_67 : decode cX6_findNext 67 = .ok (.ifCond .lt 17, 3) := by decide +kernel
theorem dX6_findNext_70 : decode cX6_findNext 70 = .ok (.aload_n 0, 1) := by decide +kernel
theorem dX6_findNext_71 : decode cX6_findNext 71 = .ok (.iload 4, 2) := by decide +kernel
theorem dX6_findNext_73 : decode cX6_findNext 73 = .ok (.iload 5, 2) := by decide +kernel
theorem dX6_findNext_75 : decode cX6_findNext 75 = .ok (.iload_n 2, 1) := by decide +kernel
theorem dX6_findNext_76 : decode cX6_findNext 76 = .ok (.iload_n 3, 1) := by decide +kernel
theorem dX6_findNext_77 : decode cX6_findNext 77 = .ok (.iload_n 1, 1) := by decide +kernel
theorem dX6_findNext_78 : decode cX6_findNext 78 = .ok (.invokevirtual 174, 3) := by decide +kernel
theorem dX6_findNext_81 : decode cX6_findNext 81 = .ok (.ifCond .eq 7, 3) := by decide +kernel
theorem dX6_findNext_84 : decode cX6_findNext 84 = .ok (.iconst 1, 1) := by decide +kernel
theorem dX6_findNext_85 : decode cX6_findNext 85 = .ok (.goto 4, 3) := by decide +kernel
theorem dX6_findNext_88 : decode cX6_findNext 88 = .ok (.iconst 0, 1) := by decide +kernel
theorem dX6_findNext_89 : decode cX6_findNext 89 = .ok (.istore 6, 2) := by decide +kernel
theorem dX6_findNext_91 : decode cX6_findNext 91 = .ok (.iload 6, 2) := by decide +kernel
theorem dX6_findNext_93 : decode cX6_findNext 93 = .ok (.ifCond .eq 8, 3) := by decide +kernel
theorem dX6_findNext_96 : decode cX6_findNext 96 = .ok (.iload 4, 2) := by decide +kernel
theorem dX6_findNext_98 : decode cX6_findNext 98 = .ok (.goto 4, 3) := by decide +kernel
theorem dX6_findNext_101 : decode cX6_findNext 101 = .ok (.iload_n 2, 1) := by decide +kernel
theorem dX6_findNext_102 : decode cX6_findNext 102 = .ok (.istore_n 2, 1) := by decide +kernel
theorem dX6_findNext_103 : decode cX6_findNext 103 = .ok (.iload 6, 2) := by decide +kernel
theorem dX6_findNext_105 : decode cX6_findNext 105 = .ok (.ifCond .eq 8, 3) := by decide +kernel
theorem dX6_findNext_108 : decode cX6_findNext 108 = .ok (.iload 5, 2) := by decide +kernel
theorem dX6_findNext_110 : decode cX6_findNext 110 = .ok (.goto 4, 3) := by decide +kernel
theorem dX6_findNext_113 : decode cX6_findNext 113 = .ok (.iload_n 3, 1) := by decide +kernel
theorem dX6_findNext_114 : decode cX6_findNext 114 = .ok (.istore_n 3, 1) := by decide +kernel
theorem dX6_findNext_115 : decode cX6_findNext 115 = .ok (.iinc 5 1, 3) := by decide +kernel
theorem dX6_findNext_118 : decode cX6_findNext 118 = .ok (.goto (-99), 3) := by decide +kernel
theorem dX6_findNext_121 : decode cX6_findNext 121 = .ok (.iinc 4 1, 3) := by decide +kernel
theorem dX6_findNext_124 : decode cX6_findNext 124 = .ok (.goto (-117), 3) := by decide +kernel
theorem dX6_findNext_127 : decode cX6_findNext 127 = .ok (.aload_n 0, 1) := by decide +kernel
theorem dX6_findNext_128 : decode cX6_findNext 128 = .ok (.iload_n 2, 1) := by decide +kernel
theorem dX6_findNext_129 : decode cX6_findNext 129 = .ok (.putfield 168, 3) := by decide +kernel
theorem dX6_findNext_132 : decode cX6_findNext 132 = .ok (.aload_n 0, 1) := by decide +kernel
theorem dX6_findNext_133 : decode cX6_findNext 133 = .ok (.iload_n 3, 1) := by decide +kernel
theorem dX6_findNext_134 : decode cX6_findNext 134 = .ok (.putfield 171, 3) := by decide +kernel
theorem dX6_findNext_137 : decode cX6_findNext 137 = .ok (.return_, 1) := by decide +kernel
set_option maxRecDepth 20000 in
theorem ggX6_doubletNow_X6_doublets : GoodIn wsX6_doubletNow wsX6_doublets := goodIn_r _ [9, 10, 11, 12, 13, 8, 14, 15, 16, 17, 18, 19, 20, 21, 22, 23, 24, 25, 26, 27, 28, 58, 59, 60, 61, 62, 63, 64, 65, 66, 67, 68, 69, 70, 71, 72, 73, 74, 75] (by decide +kernel) (by decide +kernel)
set_option maxRecDepth 20000 in
theorem gX6_doubletNow_X6_doublets : GoodIn wsX6_doubletNow (wsV RX6 178 RX6 yX6_doublets wsX6_doublets) := goodIn_app (goodIn_of _ (by decide +kernel)) ggX6_doubletNow_X6_doublets
set_option maxRecDepth 20000 in
theorem ggX6_doubletNow_X6_within : GoodIn wsX6_doubletNow wsX6_within := goodIn_r _ [31] (by decide +kernel) (by decide +kernel)
set_option maxRecDepth 20000 in
theorem gX6_doubletNow_X6_within : GoodIn wsX6_doubletNow (va_wsS RX6 39 yX6_within wsX6_within) := goodIn_app (goodIn_of _ (by decide +kernel)) ggX6_doubletNow_X6_within
set_option maxRecDepth 20000 in
theorem ggX6_doubletNow_X6_findNext : GoodIn wsX6_doubletNow wsX6_findNext := goodIn_r _ [35, 10, 2, 4, 11, 12, 13, 8, 14, 15, 16, 17, 18, 19, 20, 21, 22, 23, 24, 25, 26, 27, 28, 36, 37, 38, 39, 40, 41, 42, 43, 44, 45, 46, 47, 48, 49, 50, 51, 52, 53, 54, 55, 56, 57, 58, 59, 60, 61, 62, 63, 64, 65, 66, 67, 68, 69, 70, 71, 72, 73, 74, 75] (by decide +kernel) (by decide +kernel)
set_option maxRecDepth 20000 in
theorem gX6_doubletNow_X6_findNext : GoodIn wsX6_doubletNow (wsV RX6 182 RX6 yX6_findNext wsX6_findNext) := goodIn_app (goodIn_of _ (by decide +kernel)) ggX6_doubletNow_X6_findNext
theorem dX6_doubletNow_0 : decode cX6_doubletNow 0 = .ok (.iload_n 2, 1) := by decide +kernel
theorem dX6_doubletNow_1 : decode cX6_doubletNow 1 = .ok (.i2l, 1) := by decide +kernel
theorem dX6_doubletNow_2 : decode cX6_doubletNow 2 = .ok (.lconst 0, 1) := by decide +kernel
theorem dX6_doubletNow_3 : decode cX6_doubletNow 3 = .ok (.aload_n 0, 1) := by decide +kernel
theorem dX6_doubletNow_4 : decode cX6_doubletNow 4 = .ok (.invokevirtual 178, 3) := by decide +kernel
theorem dX6_doubletNow_7 : decode cX6_doubletNow 7 = .ok (.lconst 1, 1) := by decide +kernel
theorem dX6_doubletNow_8 : decode cX6_doubletNow 8 = .ok (.lsub, 1) := by decide +kernel
theorem dX6_doubletNow_9 : decode cX6_doubletNow 9 = .ok (.invokestatic 39, 3) := by decide +kernel
theorem dX6_doubletNow_12 : decode cX6_doubletNow 12 = .ok (.ifCond .ne 7, 3) := by decide +kernel
theorem dX6_doubletNow_15 : decode cX6_doubletNow 15 = .ok (.ldc2_w 134, 3) := by decide +kernel
theorem dX6_doubletNow_18 : decode cX6_doubletNow 18 = .ok (.lreturn, 1) := by decide +kernel
theorem dX6_doubletNow_19 : decode cX6_doubletNow 19 = .ok (.aload_n 0, 1) := by decide +kernel
theorem dX6_doubletNow_20 : decode cX6_doubletNow 20 = .ok (.iconst (-1), 1) := by decide +kernel
theorem dX6_doubletNow_21 : decode cX6_doubletNow 21 = .ok (.putfield 168, 3) := by decide +kernel
theorem dX6_doubletNow_24 : decode cX6_doubletNow 24 = .ok (.iconst 0, 1) := by decide +kernel
theorem dX6_doubletNow_25 : decode cX6_doubletNow 25 = .ok (.istore_n 3, 1) := by decide +kernel
theorem dX6_doubletNow_26 : decode cX6_doubletNow 26 = .ok (.iload_n 3, 1) := by decide +kernel
theorem dX6_doubletNow_27 : decode cX6_doubletNow 27 = .ok (.iload_n 2, 1) := by decide +kernel
theorem dX6_doubletNow_28 : decode cX6_doubletNow 28 = .ok (.if_icmp .gt 14, 3) := by decide +kernel
theorem dX6_doubletNow_31 : decode cX6_doubletNow 31 = .ok (.aload_n 0, 1) := by decide +kernel
theorem dX6_doubletNow_32 : decode cX6_doubletNow 32 = .ok (.iload_n 1, 1) := by decide +kernel
theorem dX6_doubletNow_33 : decode cX6_doubletNow 33 = .ok (.invokevirtual 182, 3) := by decide +kernel
theorem dX6_doubletNow_36 : decode cX6_doubletNow 36 = .ok (.iinc 3 1, 3) := by decide +kernel
theorem dX6_doubletNow_39 : decode cX6_doubletNow 39 = .ok (.goto (-13), 3) := by decide +kernel
theorem dX6_doubletNow_42 : decode cX6_doubletNow 42 = .ok (.ldc2_w 186, 3) := by decide +kernel
theorem dX6_doubletNow_45 : decode cX6_doubletNow 45 = .ok (.aload_n 0, 1) := by decide +kernel
theorem dX6_doubletNow_46 : decode cX6_doubletNow 46 = .ok (.getfield 168, 3) := by decide +kernel
theorem dX6_doubletNow_49 : decode cX6_doubletNow 49 = .ok (.i2l, 1) := by decide +kernel
theorem dX6_doubletNow_50 : decode cX6_doubletNow 50 = .ok (.lmul, 1) := by decide +kernel
theorem dX6_doubletNow_51 : decode cX6_doubletNow 51 = .ok (.aload_n 0, 1) := by decide +kernel
theorem dX6_doubletNow_52 : decode cX6_doubletNow 52 = .ok (.getfield 171, 3) := by decide +kernel
theorem dX6_doubletNow_55 : decode cX6_doubletNow 55 = .ok (.i2l, 1) := by decide +kernel
theorem dX6_doubletNow_56 : decode cX6_doubletNow 56 = .ok (.ladd, 1) := by decide +kernel
theorem dX6_doubletNow_57 : decode cX6_doubletNow 57 = .ok (.lreturn, 1) := by decide +kernel
set_option maxRecDepth 20000 in
theorem ggX6_doubletAt_X6_doubletNow : GoodIn wsX6_doubletAt wsX6_doubletNow := goodIn_r _ [5, 6, 7, 8, 9, 10, 11, 12, 4, 13, 14, 15, 16, 17, 18, 19, 20, 21, 22, 23, 24, 25, 26, 27, 28, 29, 30, 31, 32, 33, 34, 35, 36, 37, 38, 39, 40, 41, 42, 43, 44, 45, 46, 47, 48, 49, 50, 51, 52, 53, 54, 55, 56, 57, 58, 59, 60, 61, 62, 63, 64, 65, 66, 67, 68, 69, 70, 71, 72, 73, 74, 75, 76, 77, 78, 79] (by decide +kernel) (by decide +kernel)
set_option maxRecDepth 20000 in
theorem gX6_doubletAt_X6_doubletNow : GoodIn wsX6_doubletAt (wsV RX6 188 RX6 yX6_doubletNow wsX6_doubletNow) := goodIn_app (goodIn_of _ (by decide +kernel)) ggX6_doubletAt_X6_doubletNow
theorem dX6_doubletAt_0 : decode cX6_doubletAt 0 = .ok (.aload_n 0, 1) := by decide +kernel
theorem dX6_doubletAt_1 : decode cX6_doubletAt 1 = .ok (.iload_n 1, 1) := by decide +kernel
theorem dX6_doubletAt_2 : decode cX6_doubletAt 2 = .ok (.iload_n 2, 1) := by decide +kernel
theorem dX6_doubletAt_3 : decode cX6_doubletAt 3 = .ok (.invokevirtual 188, 3) := by decide +kernel
theorem dX6_doubletAt_6 : decode cX6_doubletAt 6 = .ok (.lreturn, 1) := by decide +kernel
set_option maxRecDepth 20000 in
theorem ggX6_doublets_X6_isDoublet : GoodIn wsX6_doublets wsX6_isDoublet := goodIn_r _ [6, 7, 8, 9, 5, 10, 11, 12, 13, 14, 15, 16, 17, 18, 19, 20, 21, 22, 23, 24, 25, 26, 27, 28, 29, 30, 31, 32, 33, 34, 35, 36, 37, 38] (by decide +kernel) (by decide +kernel)
set_option maxRecDepth 20000 in
theorem gX6_doublets_X6_isDoublet : GoodIn wsX6_doublets (wsV RX6 164 RX6 yX6_isDoublet wsX6_isDoublet) := goodIn_app (goodIn_of _ (by decide +kernel)) ggX6_doublets_X6_isDoublet
theorem dX6_doublets_0 : decode cX6_doublets 0 = .ok (.lconst 0, 1) := by decide +kernel
theorem dX6_doublets_1 : decode cX6_doublets 1 = .ok (.lstore_n 1, 1) := by decide +kernel
theorem dX6_doublets_2 : decode cX6_doublets 2 = .ok (.iconst 0, 1) := by decide +kernel
theorem dX6_doublets_3 : decode cX6_doublets 3 = .ok (.istore_n 3, 1) := by decide +kernel
theorem dX6_doublets_4 : decode cX6_doublets 4 = .ok (.iload_n 3, 1) := by decide +kernel
