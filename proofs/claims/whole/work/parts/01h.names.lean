theorem dX6_nearestPlate_97 : decode cX6_nearestPlate 97 = .ok (.iload_n 3, 1) := by decide +kernel
theorem dX6_nearestPlate_98 : decode cX6_nearestPlate 98 = .ok (.goto 4, 3) := by decide +kernel
theorem dX6_nearestPlate_101 : decode cX6_nearestPlate 101 = .ok (.iload_n 2, 1) := by decide +kernel
theorem dX6_nearestPlate_102 : decode cX6_nearestPlate 102 = .ok (.istore_n 2, 1) := by decide +kernel
theorem dX6_nearestPlate_103 : decode cX6_nearestPlate 103 = .ok (.iinc 3 1, 3) := by decide +kernel
theorem dX6_nearestPlate_106 : decode cX6_nearestPlate 106 = .ok (.goto (-102), 3) := by decide +kernel
theorem dX6_nearestPlate_109 : decode cX6_nearestPlate 109 = .ok (.iload_n 2, 1) := by decide +kernel
theorem dX6_nearestPlate_110 : decode cX6_nearestPlate 110 = .ok (.ifCond .ge 9, 3) := by decide +kernel
theorem dX6_nearestPlate_113 : decode cX6_nearestPlate 113 = .ok (.ldc2_w 134, 3) := by decide +kernel
theorem dX6_nearestPlate_116 : decode cX6_nearestPlate 116 = .ok (.goto 5, 3) := by decide +kernel
theorem dX6_nearestPlate_119 : decode cX6_nearestPlate 119 = .ok (.iload_n 2, 1) := by decide +kernel
theorem dX6_nearestPlate_120 : decode cX6_nearestPlate 120 = .ok (.i2l, 1) := by decide +kernel
theorem dX6_nearestPlate_121 : decode cX6_nearestPlate 121 = .ok (.lreturn, 1) := by decide +kernel
theorem dX6_signed_0 : decode cX6_signed 0 = .ok (.iload_n 2, 1) := by decide +kernel
theorem dX6_signed_1 : decode cX6_signed 1 = .ok (.iconst 1, 1) := by decide +kernel
theorem dX6_signed_2 : decode cX6_signed 2 = .ok (.if_icmp .ne 14, 3) := by decide +kernel
theorem dX6_signed_5 : decode cX6_signed 5 = .ok (.aload_n 0, 1) := by decide +kernel
theorem dX6_signed_6 : decode cX6_signed 6 = .ok (.getfield 26, 3) := by decide +kernel
theorem dX6_signed_9 : decode cX6_signed 9 = .ok (.iload_n 1, 1) := by decide +kernel
theorem dX6_signed_10 : decode cX6_signed 10 = .ok (.iaload, 1) := by decide +kernel
theorem dX6_signed_11 : decode cX6_signed 11 = .ok (.ineg, 1) := by decide +kernel
theorem dX6_signed_12 : decode cX6_signed 12 = .ok (.i2l, 1) := by decide +kernel
theorem dX6_signed_13 : decode cX6_signed 13 = .ok (.goto 10, 3) := by decide +kernel
theorem dX6_signed_16 : decode cX6_signed 16 = .ok (.aload_n 0, 1) := by decide +kernel
theorem dX6_signed_17 : decode cX6_signed 17 = .ok (.getfield 26, 3) := by decide +kernel
theorem dX6_signed_20 : decode cX6_signed 20 = .ok (.iload_n 1, 1) := by decide +kernel
theorem dX6_signed_21 : decode cX6_signed 21 = .ok (.iaload, 1) := by decide +kernel
theorem dX6_signed_22 : decode cX6_signed 22 = .ok (.i2l, 1) := by decide +kernel
theorem dX6_signed_23 : decode cX6_signed 23 = .ok (.lreturn, 1) := by decide +kernel
set_option maxRecDepth 20000 in
theorem ggX6_surfaces_X6_a : GoodIn wsX6_surfaces wsX6_a := goodIn_r _ [6, 7, 8, 12, 13, 14, 15, 16, 17, 18, 19, 20, 21, 22, 23, 24, 25, 26, 27, 28, 29] (by decide +kernel) (by decide +kernel)
set_option maxRecDepth 20000 in
theorem gX6_surfaces_X6_a : GoodIn wsX6_surfaces (wsV RX6 117 RX6 yX6_a wsX6_a) := goodIn_app (goodIn_of _ (by decide +kernel)) ggX6_surfaces_X6_a
set_option maxRecDepth 20000 in
theorem ggX6_surfaces_X6_floor : GoodIn wsX6_surfaces wsX6_floor := goodIn_r _ [11] (by decide +kernel) (by decide +kernel)
set_option maxRecDepth 20000 in
theorem gX6_surfaces_X6_floor : GoodIn wsX6_surfaces (va_wsS RX6 144 yX6_floor wsX6_floor) := goodIn_app (goodIn_of _ (by decide +kernel)) ggX6_surfaces_X6_floor
theorem dX6_surfaces_0 : decode cX6_surfaces 0 = .ok (.aload_n 0, 1) := by decide +kernel
theorem dX6_surfaces_1 : decode cX6_surfaces 1 = .ok (.iload_n 1, 1) := by decide +kernel
theorem dX6_surfaces_2 : decode cX6_surfaces 2 = .ok (.invokevirtual 117, 3) := by decide +kernel
theorem dX6_surfaces_5 : decode cX6_surfaces 5 = .ok (.ldc2_w 213, 3) := by decide +kernel
theorem dX6_surfaces_8 : decode cX6_surfaces 8 = .ok (.lmul, 1) := by decide +kernel
theorem dX6_surfaces_9 : decode cX6_surfaces 9 = .ok (.lload 4, 2) := by decide +kernel
theorem dX6_surfaces_11 : decode cX6_surfaces 11 = .ok (.lload_n 2, 1) := by decide +kernel
theorem dX6_surfaces_12 : decode cX6_surfaces 12 = .ok (.lsub, 1) := by decide +kernel
theorem dX6_surfaces_13 : decode cX6_surfaces 13 = .ok (.lmul, 1) := by decide +kernel
theorem dX6_surfaces_14 : decode cX6_surfaces 14 = .ok (.lload_n 2, 1) := by decide +kernel
theorem dX6_surfaces_15 : decode cX6_surfaces 15 = .ok (.lload 4, 2) := by decide +kernel
theorem dX6_surfaces_17 : decode cX6_surfaces 17 = .ok (.lmul, 1) := by decide +kernel
theorem dX6_surfaces_18 : decode cX6_surfaces 18 = .ok (.invokestatic 144, 3) := by decide +kernel
theorem dX6_surfaces_21 : decode cX6_surfaces 21 = .ok (.lreturn, 1) := by decide +kernel
set_option maxRecDepth 20000 in
theorem ggX6_surfacesBest_X6_signed : GoodIn wsX6_surfacesBest wsX6_signed := goodIn_r _ [12, 13, 31, 32, 33, 34, 35, 36, 37, 38, 39, 40, 41, 42, 43, 44, 45, 46, 47, 48] (by decide +kernel) (by decide +kernel)
set_option maxRecDepth 20000 in
theorem gX6_surfacesBest_X6_signed : GoodIn wsX6_surfacesBest (wsV RX6 246 RX6 yX6_signed wsX6_signed) := goodIn_app (goodIn_of _ (by decide +kernel)) ggX6_surfacesBest_X6_signed
set_option maxRecDepth 20000 in
theorem ggX6_surfacesBest_X6_surfaces : GoodIn wsX6_surfacesBest wsX6_surfaces := goodIn_r _ [17, 18, 19, 20, 21, 11, 22, 23, 24, 25, 26, 27, 31, 32, 33, 34, 35, 36, 37, 38, 39, 40, 41, 42, 43, 44, 45, 46, 47, 48] (by decide +kernel) (by decide +kernel)
set_option maxRecDepth 20000 in
theorem gX6_surfacesBest_X6_surfaces : GoodIn wsX6_surfacesBest (wsV RX6 249 RX6 yX6_surfaces wsX6_surfaces) := goodIn_app (goodIn_of _ (by decide +kernel)) ggX6_surfacesBest_X6_surfaces
set_option maxRecDepth 20000 in
theorem ggX6_surfacesBest_X6_size : GoodIn wsX6_surfacesBest wsX6_size := goodIn_r _ [30] (by decide +kernel) (by decide +kernel)
set_option maxRecDepth 20000 in
theorem gX6_surfacesBest_X6_size : GoodIn wsX6_surfacesBest (va_wsS RX6 153 yX6_size wsX6_size) := goodIn_app (goodIn_of _ (by decide +kernel)) ggX6_surfacesBest_X6_size
theorem dX6_surfacesBest_0 : decode cX6_surfacesBest 0 = .ok (.ldc2_w 134, 3) := by decide +kernel
theorem dX6_surfacesBest_3 : decode cX6_surfacesBest 3 = .ok (.lstore_n 2, 1) := by decide +kernel
theorem dX6_surfacesBest_4 : decode cX6_surfacesBest 4 = .ok (.lconst 0, 1) := by decide +kernel
theorem dX6_surfacesBest_5 : decode cX6_surfacesBest 5 = .ok (.lstore 4, 2) := by decide +kernel
theorem dX6_surfacesBest_7 : decode cX6_surfacesBest 7 = .ok (.iconst 0, 1) := by decide +kernel
theorem dX6_surfacesBest_8 : decode cX6_surfacesBest 8 = .ok (.istore 6, 2) := by decide +kernel
theorem dX6_surfacesBest_10 : decode cX6_surfacesBest 10 = .ok (.iload 6, 2) := by decide +kernel
theorem dX6_surfacesBest_12 : decode cX6_surfacesBest 12 = .ok (.iconst 2, 1) := by decide +kernel
theorem dX6_surfacesBest_13 : decode cX6_surfacesBest 13 = .ok (.aload_n 0, 1) := by decide +kernel
theorem dX6_surfacesBest_14 : decode cX6_surfacesBest 14 = .ok (.getfield 243, 3) := by decide +kernel
theorem dX6_surfacesBest_17 : decode cX6_surfacesBest 17 = .ok (.imul, 1) := by decide +kernel
theorem dX6_surfacesBest_18 : decode cX6_surfacesBest 18 = .ok (.if_icmp .ge 185, 3) := by decide +kernel
theorem dX6_surfacesBest_21 : decode cX6_surfacesBest 21 = .ok (.iconst 0, 1) := by decide +kernel
theorem dX6_surfacesBest_22 : decode cX6_surfacesBest 22 = .ok (.istore 7, 2) := by decide +kernel
theorem dX6_surfacesBest_24 : decode cX6_surfacesBest 24 = .ok (.iload 7, 2) := by decide +kernel
theorem dX6_surfacesBest_26 : decode cX6_surfacesBest 26 = .ok (.iconst 2, 1) := by decide +kernel
theorem dX6_surfacesBest_27 : decode cX6_surfacesBest 27 = .ok (.aload_n 0, 1) := by decide +kernel
theorem dX6_surfacesBest_28 : decode cX6_surfacesBest 28 = .ok (.getfield 243, 3) := by decide +kernel
theorem dX6_surfacesBest_31 : decode cX6_surfacesBest 31 = .ok (.imul, 1) := by decide +kernel
theorem dX6_surfacesBest_32 : decode cX6_surfacesBest 32 = .ok (.if_icmp .ge 165, 3) := by decide +kernel
theorem dX6_surfacesBest_35 : decode cX6_surfacesBest 35 = .ok (.aload_n 0, 1) := by decide +kernel
theorem dX6_surfacesBest_36 : decode cX6_surfacesBest 36 = .ok (.iload 6, 2) := by decide +kernel
theorem dX6_surfacesBest_38 : decode cX6_surfacesBest 38 = .ok (.iconst 2, 1) := by decide +kernel
theorem dX6_surfacesBest_39 : decode cX6_surfacesBest 39 = .ok (.idiv, 1) := by decide +kernel
theorem dX6_surfacesBest_40 : decode cX6_surfacesBest 40 = .ok (.iload 6, 2) := by decide +kernel
theorem dX6_surfacesBest_42 : decode cX6_surfacesBest 42 = .ok (.iconst 2, 1) := by decide +kernel
theorem dX6_surfacesBest_43 : decode cX6_surfacesBest 43 = .ok (.irem, 1) := by decide +kernel
theorem dX6_surfacesBest_44 : decode cX6_surfacesBest 44 = .ok (.invokevirtual 246, 3) := by decide +kernel
theorem dX6_surfacesBest_47 : decode cX6_surfacesBest 47 = .ok (.lstore 8, 2) := by decide +kernel
theorem dX6_surfacesBest_49 : decode cX6_surfacesBest 49 = .ok (.aload_n 0, 1) := by decide +kernel
theorem dX6_surfacesBest_50 : decode cX6_surfacesBest 50 = .ok (.iload 7, 2) := by decide +kernel
theorem dX6_surfacesBest_52 : decode cX6_surfacesBest 52 = .ok (.iconst 2, 1) := by decide +kernel
theorem dX6_surfacesBest_53 : decode cX6_surfacesBest 53 = .ok (.idiv, 1) := by decide +kernel
theorem dX6_surfacesBest_54 : decode cX6_surfacesBest 54 = .ok (.iload 7, 2) := by decide +kernel
theorem dX6_surfacesBest_56 : decode cX6_surfacesBest 56 = .ok (.iconst 2, 1) := by decide +kernel
theorem dX6_surfacesBest_57 : decode cX6_surfacesBest 57 = .ok (.irem, 1) := by decide +kernel
theorem dX6_surfacesBest_58 : decode cX6_surfacesBest 58 = .ok (.invokevirtual 246, 3) := by decide +kernel
theorem dX6_surfacesBest_61 : decode cX6_surfacesBest 61 = .ok (.lstore 10, 2) := by decide +kernel
theorem dX6_surfacesBest_63 : decode cX6_surfacesBest 63 = .ok (.lload 8, 2) := by decide +kernel
theorem dX6_surfacesBest_65 : decode cX6_surfacesBest 65 = .ok (.lload 10, 2) := by decide +kernel
theorem dX6_surfacesBest_67 : decode cX6_surfacesBest 67 = .ok (.lcmp, 1) := by decide +kernel
theorem dX6_surfacesBest_68 : decode cX6_surfacesBest 68 = .ok (.ifCond .ne 9, 3) := by decide +kernel
theorem dX6_surfacesBest_71 : decode cX6_surfacesBest 71 = .ok (.ldc2_w 203, 3) := by decide +kernel
theorem dX6_surfacesBest_74 : decode cX6_surfacesBest 74 = .ok (.goto 28, 3) := by decide +kernel
theorem dX6_surfacesBest_77 : decode cX6_surfacesBest 77 = .ok (.aload_n 0, 1) := by decide +kernel
theorem dX6_surfacesBest_78 : decode cX6_surfacesBest 78 = .ok (.aload_n 0, 1) := by decide +kernel
theorem dX6_surfacesBest_79 : decode cX6_surfacesBest 79 = .ok (.getfield 20, 3) := by decide +kernel
theorem dX6_surfacesBest_82 : decode cX6_surfacesBest 82 = .ok (.iload_n 1, 1) := by decide +kernel
theorem dX6_surfacesBest_83 : decode cX6_surfacesBest 83 = .ok (.iaload, 1) := by decide +kernel
theorem dX6_surfacesBest_84 : decode cX6_surfacesBest 84 = .ok (.lload 8, 2) := by decide +kernel
theorem dX6_surfacesBest_86 : decode cX6_surfacesBest 86 = .ok (.lload 10, 2) := by decide +kernel
theorem dX6_surfacesBest_88 : decode cX6_surfacesBest 88 = .ok (.invokevirtual 249, 3) := by decide +kernel
theorem dX6_surfacesBest_91 : decode cX6_surfacesBest 91 = .ok (.aload_n 0, 1) := by decide +kernel
theorem dX6_surfacesBest_92 : decode cX6_surfacesBest 92 = .ok (.getfield 23, 3) := by decide +kernel
theorem dX6_surfacesBest_95 : decode cX6_surfacesBest 95 = .ok (.iload_n 1, 1) := by decide +kernel
theorem dX6_surfacesBest_96 : decode cX6_surfacesBest 96 = .ok (.iaload, 1) := by decide +kernel
theorem dX6_surfacesBest_97 : decode cX6_surfacesBest 97 = .ok (.i2l, 1) := by decide +kernel
theorem dX6_surfacesBest_98 : decode cX6_surfacesBest 98 = .ok (.lsub, 1) := by decide +kernel
theorem dX6_surfacesBest_99 : decode cX6_surfacesBest 99 = .ok (.invokestatic 153, 3) := by decide +kernel
theorem dX6_surfacesBest_102 : decode cX6_surfacesBest 102 = .ok (.lstore 12, 2) := by decide +kernel
theorem dX6_surfacesBest_104 : decode cX6_surfacesBest 104 = .ok (.lload 12, 2) := by decide +kernel
theorem dX6_surfacesBest_106 : decode cX6_surfacesBest 106 = .ok (.lconst 0, 1) := by decide +kernel
theorem dX6_surfacesBest_107 : decode cX6_surfacesBest 107 = .ok (.lcmp, 1) := by decide +kernel
theorem dX6_surfacesBest_108 : decode cX6_surfacesBest 108 = .ok (.ifCond .lt 23, 3) := by decide +kernel
theorem dX6_surfacesBest_111 : decode cX6_surfacesBest 111 = .ok (.lload_n 2, 1) := by decide +kernel
theorem dX6_surfacesBest_112 : decode cX6_surfacesBest 112 = .ok (.ldc2_w 134, 3) := by decide +kernel
theorem dX6_surfacesBest_115 : decode cX6_surfacesBest 115 = .ok (.lcmp, 1) := by decide +kernel
theorem dX6_surfacesBest_116 : decode cX6_surfacesBest 116 = .ok (.ifCond .eq 11, 3) := by decide +kernel
theorem dX6_surfacesBest_119 : decode cX6_surfacesBest 119 = .ok (.lload 12, 2) := by decide +kernel
theorem dX6_surfacesBest_121 : decode cX6_surfacesBest 121 = .ok (.lload 4, 2) := by decide +kernel
theorem dX6_surfacesBest_123 : decode cX6_surfacesBest 123 = .ok (.lcmp, 1) := by decide +kernel
theorem dX6_surfacesBest_124 : decode cX6_surfacesBest 124 = .ok (.ifCond .ge 7, 3) := by decide +kernel
theorem dX6_surfacesBest_127 : decode cX6_surfacesBest 127 = .ok (.iconst 1, 1) := by decide +kernel
theorem dX6_surfacesBest_128 : decode cX6_surfacesBest 128 = .ok (.goto 4, 3) := by decide +kernel
theorem dX6_surfacesBest_131 : decode cX6_surfacesBest 131 = .ok (.iconst 0, 1) := by decide +kernel
theorem dX6_surfacesBest_132 : decode cX6_surfacesBest 132 = .ok (.istore 14, 2) := by decide +kernel
theorem dX6_surfacesBest_134 : decode cX6_surfacesBest 134 = .ok (.iload 14, 2) := by decide +kernel
theorem dX6_surfacesBest_136 : decode cX6_surfacesBest 136 = .ok (.ifCond .eq 39, 3) := by decide +kernel
theorem dX6_surfacesBest_139 : decode cX6_surfacesBest 139 = .ok (.ldc2_w 115, 3) := by decide +kernel
theorem dX6_surfacesBest_142 : decode cX6_surfacesBest 142 = .ok (.iload 6, 2) := by decide +kernel
theorem dX6_surfacesBest_144 : decode cX6_surfacesBest 144 = .ok (.iconst 2, 1) := by decide +kernel
theorem dX6_surfacesBest_145 : decode cX6_surfacesBest 145 = .ok (.idiv, 1) := by decide +kernel
theorem dX6_surfacesBest_146 : decode cX6_surfacesBest 146 = .ok (.i2l, 1) := by decide +kernel
theorem dX6_surfacesBest_147 : decode cX6_surfacesBest 147 = .ok (.lmul, 1) := by decide +kernel
theorem dX6_surfacesBest_148 : decode cX6_surfacesBest 148 = .ok (.ldc2_w 253, 3) := by decide +kernel
theorem dX6_surfacesBest_151 : decode cX6_surfacesBest 151 = .ok (.iload 7, 2) := by decide +kernel
theorem dX6_surfacesBest_153 : decode cX6_surfacesBest 153 = .ok (.iconst 2, 1) := by decide +kernel
theorem dX6_surfacesBest_154 : decode cX6_surfacesBest 154 = .ok (.idiv, 1) := by decide +kernel
theorem dX6_surfacesBest_155 : decode cX6_surfacesBest 155 = .ok (.i2l, 1) := by decide +kernel
theorem dX6_surfacesBest_156 : decode cX6_surfacesBest 156 = .ok (.lmul, 1) := by decide +kernel
theorem dX6_surfacesBest_157 : decode cX6_surfacesBest 157 = .ok (.ladd, 1) := by decide +kernel
theorem dX6_surfacesBest_158 : decode cX6_surfacesBest 158 = .ok (.iconst 2, 1) := by decide +kernel
theorem dX6_surfacesBest_159 : decode cX6_surfacesBest 159 = .ok (.iload 6, 2) := by decide +kernel
theorem dX6_surfacesBest_161 : decode cX6_surfacesBest 161 = .ok (.iconst 2, 1) := by decide +kernel
theorem dX6_surfacesBest_162 : decode cX6_surfacesBest 162 = .ok (.irem, 1) := by decide +kernel
theorem dX6_surfacesBest_163 : decode cX6_surfacesBest 163 = .ok (.imul, 1) := by decide +kernel
theorem dX6_surfacesBest_164 : decode cX6_surfacesBest 164 = .ok (.i2l, 1) := by decide +kernel
theorem dX6_surfacesBest_165 : decode cX6_surfacesBest 165 = .ok (.ladd, 1) := by decide +kernel
theorem dX6_surfacesBest_166 : decode cX6_surfacesBest 166 = .ok (.iload 7, 2) := by decide +kernel
theorem dX6_surfacesBest_168 : decode cX6_surfacesBest 168 = .ok (.iconst 2, 1) := by decide +kernel
theorem dX6_surfacesBest_169 : decode cX6_surfacesBest 169 = .ok (.irem, 1) := by decide +kernel
theorem dX6_surfacesBest_170 : decode cX6_surfacesBest 170 = .ok (.i2l, 1) := by decide +kernel
theorem dX6_surfacesBest_171 : decode cX6_surfacesBest 171 = .ok (.ladd, 1) := by decide +kernel
theorem dX6_surfacesBest_172 : decode cX6_surfacesBest 172 = .ok (.goto 4, 3) := by decide +kernel
theorem dX6_surfacesBest_175 : decode cX6_surfacesBest 175 = .ok (.lload_n 2, 1) := by decide +kernel
theorem dX6_surfacesBest_176 : decode cX6_surfacesBest 176 = .ok (.lstore_n 2, 1) := by decide +kernel
theorem dX6_surfacesBest_177 : decode cX6_surfacesBest 177 = .ok (.iload 14, 2) := by decide +kernel
theorem dX6_surfacesBest_179 : decode cX6_surfacesBest 179 = .ok (.ifCond .eq 8, 3) := by decide +kernel
theorem dX6_surfacesBest_182 : decode cX6_surfacesBest 182 = .ok (.lload 12, 2) := by decide +kernel
theorem dX6_surfacesBest_184 : decode cX6_surfacesBest 184 = .ok (.goto 5, 3) := by decide +kernel
theorem dX6_surfacesBest_187 : decode cX6_surfacesBest 187 = .ok (.lload 4, 2) := by decide +kernel
theorem dX6_surfacesBest_189 : decode cX6_surfacesBest 189 = .ok (.lstore 4, 2) := by decide +kernel
theorem dX6_surfacesBest_191 : decode cX6_surfacesBest 191 = .ok (.iinc 7 1, 3) := by decide +kernel
theorem dX6_surfacesBest_194 : decode cX6_surfacesBest 194 = .ok (.goto (-170), 3) := by decide +kernel
theorem dX6_surfacesBest_197 : decode cX6_surfacesBest 197 = .ok (.iinc 6 1, 3) := by decide +kernel
theorem dX6_surfacesBest_200 : decode cX6_surfacesBest 200 = .ok (.goto (-190), 3) := by decide +kernel
theorem dX6_surfacesBest_203 : decode cX6_surfacesBest 203 = .ok (.lload_n 2, 1) := by decide +kernel
theorem dX6_surfacesBest_204 : decode cX6_surfacesBest 204 = .ok (.lreturn, 1) := by decide +kernel
set_option maxRecDepth 20000 in
theorem ggX6_bestSurfaces_X6_isLens : GoodIn wsX6_bestSurfaces wsX6_isLens := goodIn_r _ [6, 7, 8, 9, 5, 10, 44, 45, 46, 47, 48, 49, 50, 51, 52, 53, 54, 55, 56, 57, 58, 59, 60, 61] (by decide +kernel) (by decide +kernel)
set_option maxRecDepth 20000 in
theorem gX6_bestSurfaces_X6_isLens : GoodIn wsX6_bestSurfaces (wsV RX6 215 RX6 yX6_isLens wsX6_isLens) := goodIn_app (goodIn_of _ (by decide +kernel)) ggX6_bestSurfaces_X6_isLens
set_option maxRecDepth 20000 in
theorem ggX6_bestSurfaces_X6_surfacesBest : GoodIn wsX6_bestSurfaces wsX6_surfacesBest := goodIn_r _ [14, 15, 16, 17, 18, 19, 20, 21, 22, 23, 24, 5, 25, 26, 27, 28, 29, 30, 31, 32, 33, 34, 35, 36, 37, 38, 39, 40, 41, 42, 43, 44, 45, 46, 47, 48, 49, 50, 51, 52, 53, 54, 55, 56, 57, 58, 59, 60, 61] (by decide +kernel) (by decide +kernel)
set_option maxRecDepth 20000 in
theorem gX6_bestSurfaces_X6_surfacesBest : GoodIn wsX6_bestSurfaces (wsV RX6 255 RX6 yX6_surfacesBest wsX6_surfacesBest) := goodIn_app (goodIn_of _ (by decide +kernel)) ggX6_bestSurfaces_X6_surfacesBest
theorem dX6_bestSurfaces_0 : decode cX6_bestSurfaces 0 = .ok (.aload_n 0, 1) := by decide +kernel
theorem dX6_bestSurfaces_1 : decode cX6_bestSurfaces 1 = .ok (.iload_n 1, 1) := by decide +kernel
theorem dX6_bestSurfaces_2 : decode cX6_bestSurfaces 2 = .ok (.invokevirtual 215, 3) := by decide +kernel
theorem dX6_bestSurfaces_5 : decode cX6_bestSurfaces 5 = .ok (.ifCond .eq 11, 3) := by decide +kernel
theorem dX6_bestSurfaces_8 : decode cX6_bestSurfaces 8 = .ok (.aload_n 0, 1) := by decide +kernel
theorem dX6_bestSurfaces_9 : decode cX6_bestSurfaces 9 = .ok (.iload_n 1, 1) := by decide +kernel
theorem dX6_bestSurfaces_10 : decode cX6_bestSurfaces 10 = .ok (.invokevirtual 255, 3) := by decide +kernel
theorem dX6_bestSurfaces_13 : decode cX6_bestSurfaces 13 = .ok (.goto 6, 3) := by decide +kernel
theorem dX6_bestSurfaces_16 : decode cX6_bestSurfaces 16 = .ok (.ldc2_w 218, 3) := by decide +kernel
theorem dX6_bestSurfaces_19 : decode cX6_bestSurfaces 19 = .ok (.lreturn, 1) := by decide +kernel
set_option maxRecDepth 20000 in
theorem ggX6_surfacePower_X6_isGlass : GoodIn wsX6_surfacePower wsX6_isGlass := goodIn_r _ [8, 9, 10, 11, 7, 12, 32, 33, 34, 35, 36, 37, 38, 39, 40, 41, 42, 43, 44, 45, 46, 47, 48, 49] (by decide +kernel) (by decide +kernel)
set_option maxRecDepth 20000 in
theorem gX6_surfacePower_X6_isGlass : GoodIn wsX6_surfacePower (wsV RX6 100 RX6 yX6_isGlass wsX6_isGlass) := goodIn_app (goodIn_of _ (by decide +kernel)) ggX6_surfacePower_X6_isGlass
set_option maxRecDepth 20000 in
theorem ggX6_surfacePower_X6_signed : GoodIn wsX6_surfacePower wsX6_signed := goodIn_r _ [16, 17, 32, 33, 34, 35, 36, 37, 38, 39, 40, 41, 42, 43, 44, 45, 46, 47, 48, 49] (by decide +kernel) (by decide +kernel)
set_option maxRecDepth 20000 in
theorem gX6_surfacePower_X6_signed : GoodIn wsX6_surfacePower (wsV RX6 246 RX6 yX6_signed wsX6_signed) := goodIn_app (goodIn_of _ (by decide +kernel)) ggX6_surfacePower_X6_signed
set_option maxRecDepth 20000 in
theorem ggX6_surfacePower_X6_surfaces : GoodIn wsX6_surfacePower wsX6_surfaces := goodIn_r _ [21, 22, 23, 24, 25, 7, 26, 27, 28, 29, 30, 31, 32, 33, 34, 35, 36, 37, 38, 39, 40, 41, 42, 43, 44, 45, 46, 47, 48, 49] (by decide +kernel) (by decide +kernel)
set_option maxRecDepth 20000 in
theorem gX6_surfacePower_X6_surfaces : GoodIn wsX6_surfacePower (wsV RX6 249 RX6 yX6_surfaces wsX6_surfaces) := goodIn_app (goodIn_of _ (by decide +kernel)) ggX6_surfacePower_X6_surfaces
theorem dX6_surfacePower_0 : decode cX6_surfacePower 0 = .ok (.aload_n 0, 1) := by decide +kernel
theorem dX6_surfacePower_1 : decode cX6_surfacePower 1 = .ok (.iload_n 1, 1) := by decide +kernel
theorem dX6_surfacePower_2 : decode cX6_surfacePower 2 = .ok (.invokevirtual 100, 3) := by decide +kernel
theorem dX6_surfacePower_5 : decode cX6_surfacePower 5 = .ok (.ifCond .ne 7, 3) := by decide +kernel
theorem dX6_surfacePower_8 : decode cX6_surfacePower 8 = .ok (.ldc2_w 104, 3) := by decide +kernel
theorem dX6_surfacePower_11 : decode cX6_surfacePower 11 = .ok (.lreturn, 1) := by decide +kernel
theorem dX6_surfacePower_12 : decode cX6_surfacePower 12 = .ok (.iload_n 2, 1) := by decide +kernel
theorem dX6_surfacePower_13 : decode cX6_surfacePower 13 = .ok (.sipush 1000, 3) := by decide +kernel
theorem dX6_surfacePower_16 : decode cX6_surfacePower 16 = .ok (.idiv, 1) := by decide +kernel
theorem dX6_surfacePower_17 : decode cX6_surfacePower 17 = .ok (.istore_n 3, 1) := by decide +kernel
theorem dX6_surfacePower_18 : decode cX6_surfacePower 18 = .ok (.iload_n 2, 1) := by decide +kernel
theorem dX6_surfacePower_19 : decode cX6_surfacePower 19 = .ok (.bipush 10, 2) := by decide +kernel
theorem dX6_surfacePower_21 : decode cX6_surfacePower 21 = .ok (.idiv, 1) := by decide +kernel
theorem dX6_surfacePower_22 : decode cX6_surfacePower 22 = .ok (.bipush 100, 2) := by decide +kernel
theorem dX6_surfacePower_24 : decode cX6_surfacePower 24 = .ok (.irem, 1) := by decide +kernel
theorem dX6_surfacePower_25 : decode cX6_surfacePower 25 = .ok (.istore 4, 2) := by decide +kernel
theorem dX6_surfacePower_27 : decode cX6_surfacePower 27 = .ok (.iload_n 2, 1) := by decide +kernel
theorem dX6_surfacePower_28 : decode cX6_surfacePower 28 = .ok (.ifCond .lt 28, 3) := by decide +kernel
theorem dX6_surfacePower_31 : decode cX6_surfacePower 31 = .ok (.iload_n 2, 1) := by decide +kernel
theorem dX6_surfacePower_32 : decode cX6_surfacePower 32 = .ok (.bipush 10, 2) := by decide +kernel
theorem dX6_surfacePower_34 : decode cX6_surfacePower 34 = .ok (.irem, 1) := by decide +kernel
theorem dX6_surfacePower_35 : decode cX6_surfacePower 35 = .ok (.iconst 3, 1) := by decide +kernel
theorem dX6_surfacePower_36 : decode cX6_surfacePower 36 = .ok (.if_icmp .gt 20, 3) := by decide +kernel
theorem dX6_surfacePower_39 : decode cX6_surfacePower 39 = .ok (.iload_n 3, 1) := by decide +kernel
theorem dX6_surfacePower_40 : decode cX6_surfacePower 40 = .ok (.aload_n 0, 1) := by decide +kernel
theorem dX6_surfacePower_41 : decode cX6_surfacePower 41 = .ok (.getfield 243, 3) := by decide +kernel
theorem dX6_surfacePower_44 : decode cX6_surfacePower 44 = .ok (.if_icmp .ge 12, 3) := by decide +kernel
theorem dX6_surfacePower_47 : decode cX6_surfacePower 47 = .ok (.iload 4, 2) := by decide +kernel
theorem dX6_surfacePower_49 : decode cX6_surfacePower 49 = .ok (.aload_n 0, 1) := by decide +kernel
theorem dX6_surfacePower_50 : decode cX6_surfacePower 50 = .ok (.getfield 243, 3) := by decide +kernel
theorem dX6_surfacePower_53 : decode cX6_surfacePower 53 = .ok (.if_icmp .lt 7, 3) := by decide +kernel
theorem dX6_surfacePower_56 : decode cX6_surfacePower 56 = .ok (.ldc2_w 53, 3) := by decide +kernel
theorem dX6_surfacePower_59 : decode cX6_surfacePower 59 = .ok (.lreturn, 1) := by decide +kernel
theorem dX6_surfacePower_60 : decode cX6_surfacePower 60 = .ok (.aload_n 0, 1) := by decide +kernel
theorem dX6_surfacePower_61 : decode cX6_surfacePower 61 = .ok (.iload_n 3, 1) := by decide +kernel
theorem dX6_surfacePower_62 : decode cX6_surfacePower 62 = .ok (.iload_n 2, 1) := by decide +kernel
theorem dX6_surfacePower_63 : decode cX6_surfacePower 63 = .ok (.bipush 10, 2) := by decide +kernel
theorem dX6_surfacePower_65 : decode cX6_surfacePower 65 = .ok (.irem, 1) := by decide +kernel
theorem dX6_surfacePower_66 : decode cX6_surfacePower 66 = .ok (.iconst 2, 1) := by decide +kernel
theorem dX6_surfacePower_67 : decode cX6_surfacePower 67 = .ok (.idiv, 1) := by decide +kernel
theorem dX6_surfacePower_68 : decode cX6_surfacePower 68 = .ok (.invokevirtual 246, 3) := by decide +kernel
theorem dX6_surfacePower_71 : decode cX6_surfacePower 71 = .ok (.lstore 5, 2) := by decide +kernel
theorem dX6_surfacePower_73 : decode cX6_surfacePower 73 = .ok (.aload_n 0, 1) := by decide +kernel
theorem dX6_surfacePower_74 : decode cX6_surfacePower 74 = .ok (.iload 4, 2) := by decide +kernel
theorem dX6_surfacePower_76 : decode cX6_surfacePower 76 = .ok (.iload_n 2, 1) := by decide +kernel
theorem dX6_surfacePower_77 : decode cX6_surfacePower 77 = .ok (.iconst 2, 1) := by decide +kernel
theorem dX6_surfacePower_78 : decode cX6_surfacePower 78 = .ok (.irem, 1) := by decide +kernel
theorem dX6_surfacePower_79 : decode cX6_surfacePower 79 = .ok (.invokevirtual 246, 3) := by decide +kernel
theorem dX6_surfacePower_82 : decode cX6_surfacePower 82 = .ok (.lstore 7, 2) := by decide +kernel
theorem dX6_surfacePower_84 : decode cX6_surfacePower 84 = .ok (.lload 5, 2) := by decide +kernel
theorem dX6_surfacePower_86 : decode cX6_surfacePower 86 = .ok (.lload 7, 2) := by decide +kernel
theorem dX6_surfacePower_88 : decode cX6_surfacePower 88 = .ok (.lcmp, 1) := by decide +kernel
theorem dX6_surfacePower_89 : decode cX6_surfacePower 89 = .ok (.ifCond .ne 9, 3) := by decide +kernel
theorem dX6_surfacePower_92 : decode cX6_surfacePower 92 = .ok (.ldc2_w 53, 3) := by decide +kernel
theorem dX6_surfacePower_95 : decode cX6_surfacePower 95 = .ok (.goto 12, 3) := by decide +kernel
theorem dX6_surfacePower_98 : decode cX6_surfacePower 98 = .ok (.aload_n 0, 1) := by decide +kernel
theorem dX6_surfacePower_99 : decode cX6_surfacePower 99 = .ok (.iload_n 1, 1) := by decide +kernel
theorem dX6_surfacePower_100 : decode cX6_surfacePower 100 = .ok (.lload 5, 2) := by decide +kernel
theorem dX6_surfacePower_102 : decode cX6_surfacePower 102 = .ok (.lload 7, 2) := by decide +kernel
theorem dX6_surfacePower_104 : decode cX6_surfacePower 104 = .ok (.invokevirtual 249, 3) := by decide +kernel
theorem dX6_surfacePower_107 : decode cX6_surfacePower 107 = .ok (.lreturn, 1) := by decide +kernel
theorem dX6_mix_0 : decode cX6_mix 0 = .ok (.aload_n 0, 1) := by decide +kernel
theorem dX6_mix_1 : decode cX6_mix 1 = .ok (.ldc2_w 258, 3) := by decide +kernel
theorem dX6_mix_4 : decode cX6_mix 4 = .ok (.aload_n 0, 1) := by decide +kernel
theorem dX6_mix_5 : decode cX6_mix 5 = .ok (.getfield 260, 3) := by decide +kernel
theorem dX6_mix_8 : decode cX6_mix 8 = .ok (.lmul, 1) := by decide +kernel
theorem dX6_mix_9 : decode cX6_mix 9 = .ok (.lload_n 1, 1) := by decide +kernel
theorem dX6_mix_10 : decode cX6_mix 10 = .ok (.ladd, 1) := by decide +kernel
theorem dX6_mix_11 : decode cX6_mix 11 = .ok (.putfield 260, 3) := by decide +kernel
theorem dX6_mix_14 : decode cX6_mix 14 = .ok (.return_, 1) := by decide +kernel
set_option maxRecDepth 20000 in
theorem ggX6_digest_X6_mix : GoodIn wsX6_digest wsX6_mix := goodIn_r _ [16, 17, 2, 151, 152, 153, 154, 155, 156, 157, 158, 159, 160, 161, 162, 163, 164, 165, 166, 167, 168] (by decide +kernel) (by decide +kernel)
set_option maxRecDepth 20000 in
theorem gX6_digest_X6_mix : GoodIn wsX6_digest (wsV RX6 265 RX6 yX6_mix wsX6_mix) := goodIn_app (goodIn_of _ (by decide +kernel)) ggX6_digest_X6_mix
set_option maxRecDepth 20000 in
theorem ggX6_digest_X6_placeNow : GoodIn wsX6_digest wsX6_placeNow := goodIn_r _ [21, 3, 22, 151, 152, 153, 154, 155, 156, 157, 158, 159, 160, 161, 162, 163, 164, 165, 166, 167, 168] (by decide +kernel) (by decide +kernel)
set_option maxRecDepth 20000 in
theorem gX6_digest_X6_placeNow : GoodIn wsX6_digest (wsV RX6 111 RX6 yX6_placeNow wsX6_placeNow) := goodIn_app (goodIn_of _ (by decide +kernel)) ggX6_digest_X6_placeNow
set_option maxRecDepth 20000 in
theorem ggX6_digest_X6_abbeNow : GoodIn wsX6_digest wsX6_abbeNow := goodIn_r _ [26, 27, 28, 29, 30, 15, 31, 4, 32, 33, 34, 35, 36, 151, 152, 153, 154, 155, 156, 157, 158, 159, 160, 161, 162, 163, 164, 165, 166, 167, 168] (by decide +kernel) (by decide +kernel)
set_option maxRecDepth 20000 in
theorem gX6_digest_X6_abbeNow : GoodIn wsX6_digest (wsV RX6 128 RX6 yX6_abbeNow wsX6_abbeNow) := goodIn_app (goodIn_of _ (by decide +kernel)) ggX6_digest_X6_abbeNow
set_option maxRecDepth 20000 in
theorem ggX6_digest_X6_partialNow : GoodIn wsX6_digest wsX6_partialNow := goodIn_r _ [40, 41, 42, 43, 44, 15, 45, 4, 33, 34, 35, 36, 151, 152, 153, 154, 155, 156, 157, 158, 159, 160, 161, 162, 163, 164, 165, 166, 167, 168] (by decide +kernel) (by decide +kernel)
set_option maxRecDepth 20000 in
theorem gX6_digest_X6_partialNow : GoodIn wsX6_digest (wsV RX6 131 RX6 yX6_partialNow wsX6_partialNow) := goodIn_app (goodIn_of _ (by decide +kernel)) ggX6_digest_X6_partialNow
set_option maxRecDepth 20000 in
theorem ggX6_digest_X6_balanceNow : GoodIn wsX6_digest wsX6_balanceNow := goodIn_r _ [49, 27, 50, 51, 52, 15, 53, 5, 6, 54, 55, 56, 57, 7, 4, 32, 28, 29, 30, 31, 58, 59, 60, 33, 34, 35, 36, 151, 152, 153, 154, 155, 156, 157, 158, 159, 160, 161, 162, 163, 164, 165, 166, 167, 168] (by decide +kernel) (by decide +kernel)
set_option maxRecDepth 20000 in
theorem gX6_digest_X6_balanceNow : GoodIn wsX6_digest (wsV RX6 226 RX6 yX6_balanceNow wsX6_balanceNow) := goodIn_app (goodIn_of _ (by decide +kernel)) ggX6_digest_X6_balanceNow
set_option maxRecDepth 20000 in
theorem ggX6_digest_X6_doublets : GoodIn wsX6_digest wsX6_doublets := goodIn_r _ [64, 3, 65, 66, 67, 15, 68, 69, 70, 71, 72, 28, 29, 30, 31, 4, 32, 33, 34, 35, 36, 151, 152, 153, 154, 155, 156, 157, 158, 159, 160, 161, 162, 163, 164, 165, 166, 167, 168] (by decide +kernel) (by decide +kernel)
set_option maxRecDepth 20000 in
theorem gX6_digest_X6_doublets : GoodIn wsX6_digest (wsV RX6 178 RX6 yX6_doublets wsX6_doublets) := goodIn_app (goodIn_of _ (by decide +kernel)) ggX6_digest_X6_doublets
set_option maxRecDepth 20000 in
theorem ggX6_digest_X6_doubletNow : GoodIn wsX6_digest wsX6_doubletNow := goodIn_r _ [76, 77, 78, 79, 80, 61, 62, 63, 15, 64, 3, 65, 66, 67, 68, 69, 70, 71, 72, 28, 29, 30, 31, 4, 32, 33, 34, 35, 36, 81, 82, 83, 84, 85, 86, 87, 88, 89, 90, 91, 92, 93, 94, 95, 42, 43, 44, 45, 96, 97, 98, 99, 100, 101, 102, 103, 104, 105, 151, 152, 153, 154, 155, 156, 157, 158, 159, 160, 161, 162, 163, 164, 165, 166, 167, 168] (by decide +kernel) (by decide +kernel)
set_option maxRecDepth 20000 in
theorem gX6_digest_X6_doubletNow : GoodIn wsX6_digest (wsV RX6 188 RX6 yX6_doubletNow wsX6_doubletNow) := goodIn_app (goodIn_of _ (by decide +kernel)) ggX6_digest_X6_doubletNow
set_option maxRecDepth 20000 in
theorem ggX6_digest_X6_tripletBest : GoodIn wsX6_digest wsX6_tripletBest := goodIn_r _ [109, 77, 3, 110, 111, 79, 112, 113, 114, 15, 115, 28, 29, 30, 31, 4, 32, 116, 117, 118, 119, 33, 34, 35, 36, 42, 43, 44, 45, 120, 121, 122, 123, 124, 125, 126, 127, 58, 59, 60, 96, 97, 98, 151, 152, 153, 154, 155, 156, 157, 158, 159, 160, 161, 162, 163, 164, 165, 166, 167, 168] (by decide +kernel) (by decide +kernel)
set_option maxRecDepth 20000 in
theorem gX6_digest_X6_tripletBest : GoodIn wsX6_digest (wsV RX6 208 RX6 yX6_tripletBest wsX6_tripletBest) := goodIn_app (goodIn_of _ (by decide +kernel)) ggX6_digest_X6_tripletBest
set_option maxRecDepth 20000 in
theorem ggX6_digest_X6_surfacesBest : GoodIn wsX6_digest wsX6_surfacesBest := goodIn_r _ [131, 77, 8, 110, 6, 7, 27, 132, 133, 134, 135, 15, 136, 9, 137, 138, 139, 140, 141, 28, 29, 30, 31, 4, 32, 58, 59, 60, 96, 97, 98, 151, 152, 153, 154, 155, 156, 157, 158, 159, 160, 161, 162, 163, 164, 165, 166, 167, 168] (by decide +kernel) (by decide +kernel)
set_option maxRecDepth 20000 in
theorem gX6_digest_X6_surfacesBest : GoodIn wsX6_digest (wsV RX6 255 RX6 yX6_surfacesBest wsX6_surfacesBest) := goodIn_app (goodIn_of _ (by decide +kernel)) ggX6_digest_X6_surfacesBest
set_option maxRecDepth 20000 in
theorem ggX6_digest_X6_systemNow : GoodIn wsX6_digest wsX6_systemNow := goodIn_r _ [53, 5, 6, 54, 55, 56, 15, 57, 7, 27, 4, 32, 28, 29, 30, 31, 58, 59, 60, 151, 152, 153, 154, 155, 156, 157, 158, 159, 160, 161, 162, 163, 164, 165, 166, 167, 168] (by decide +kernel) (by decide +kernel)
set_option maxRecDepth 20000 in
theorem gX6_digest_X6_systemNow : GoodIn wsX6_digest (wsV RX6 223 RX6 yX6_systemNow wsX6_systemNow) := goodIn_app (goodIn_of _ (by decide +kernel)) ggX6_digest_X6_systemNow
set_option maxRecDepth 20000 in
theorem ggX6_digest_X6_wrongNow : GoodIn wsX6_digest wsX6_wrongNow := goodIn_r _ [145, 5, 3, 77, 146, 6, 110, 79, 147, 148, 149, 15, 150, 50, 51, 52, 53, 54, 55, 56, 57, 7, 27, 4, 32, 28, 29, 30, 31, 58, 59, 60, 96, 97, 98, 151, 152, 153, 154, 155, 156, 157, 158, 159, 160, 161, 162, 163, 164, 165, 166, 167, 168] (by decide +kernel) (by decide +kernel)
set_option maxRecDepth 20000 in
theorem gX6_digest_X6_wrongNow : GoodIn wsX6_digest (wsV RX6 239 RX6 yX6_wrongNow wsX6_wrongNow) := goodIn_app (goodIn_of _ (by decide +kernel)) ggX6_digest_X6_wrongNow
theorem dX6_digest_0 : decode cX6_digest 0 = .ok (.aload_n 0, 1) := by decide +kernel
theorem dX6_digest_1 : decode cX6_digest 1 = .ok (.ldc2_w 263, 3) := by decide +kernel
theorem dX6_digest_4 : decode cX6_digest 4 = .ok (.putfield 260, 3) := by decide +kernel
theorem dX6_digest_7 : decode cX6_digest 7 = .ok (.aload_n 0, 1) := by decide +kernel
theorem dX6_digest_8 : decode cX6_digest 8 = .ok (.aload_n 0, 1) := by decide +kernel
theorem dX6_digest_9 : decode cX6_digest 9 = .ok (.getfield 35, 3) := by decide +kernel
theorem dX6_digest_12 : decode cX6_digest 12 = .ok (.i2l, 1) := by decide +kernel
theorem dX6_digest_13 : decode cX6_digest 13 = .ok (.invokevirtual 265, 3) := by decide +kernel
theorem dX6_digest_16 : decode cX6_digest 16 = .ok (.iconst 0, 1) := by decide +kernel
theorem dX6_digest_17 : decode cX6_digest 17 = .ok (.istore_n 1, 1) := by decide +kernel
theorem dX6_digest_18 : decode cX6_digest 18 = .ok (.iload_n 1, 1) := by decide +kernel
theorem dX6_digest_19 : decode cX6_digest 19 = .ok (.aload_n 0, 1) := by decide +kernel
theorem dX6_digest_20 : decode cX6_digest 20 = .ok (.getfield 35, 3) := by decide +kernel
theorem dX6_digest_23 : decode cX6_digest 23 = .ok (.if_icmp .ge 73, 3) := by decide +kernel
theorem dX6_digest_26 : decode cX6_digest 26 = .ok (.iconst 0, 1) := by decide +kernel
theorem dX6_digest_27 : decode cX6_digest 27 = .ok (.istore_n 2, 1) := by decide +kernel
theorem dX6_digest_28 : decode cX6_digest 28 = .ok (.iload_n 2, 1) := by decide +kernel
theorem dX6_digest_29 : decode cX6_digest 29 = .ok (.iconst 3, 1) := by decide +kernel
theorem dX6_digest_30 : decode cX6_digest 30 = .ok (.if_icmp .ge 24, 3) := by decide +kernel
theorem dX6_digest_33 : decode cX6_digest 33 = .ok (.aload_n 0, 1) := by decide +kernel
theorem dX6_digest_34 : decode cX6_digest 34 = .ok (.aload_n 0, 1) := by decide +kernel
theorem dX6_digest_35 : decode cX6_digest 35 = .ok (.getfield 17, 3) := by decide +kernel
theorem dX6_digest_38 : decode cX6_digest 38 = .ok (.iconst 3, 1) := by decide +kernel
theorem dX6_digest_39 : decode cX6_digest 39 = .ok (.iload_n 1, 1) := by decide +kernel
theorem dX6_digest_40 : decode cX6_digest 40 = .ok (.imul, 1) := by decide +kernel
theorem dX6_digest_41 : decode cX6_digest 41 = .ok (.iload_n 2, 1) := by decide +kernel
theorem dX6_digest_42 : decode cX6_digest 42 = .ok (.iadd, 1) := by decide +kernel
theorem dX6_digest_43 : decode cX6_digest 43 = .ok (.iaload, 1) := by decide +kernel
theorem dX6_digest_44 : decode cX6_digest 44 = .ok (.i2l, 1) := by decide +kernel
theorem dX6_digest_45 : decode cX6_digest 45 = .ok (.invokevirtual 265, 3) := by decide +kernel
theorem dX6_digest_48 : decode cX6_digest 48 = .ok (.iinc 2 1, 3) := by decide +kernel
theorem dX6_digest_51 : decode cX6_digest 51 = .ok (.goto (-23), 3) := by decide +kernel
theorem dX6_digest_54 : decode cX6_digest 54 = .ok (.aload_n 0, 1) := by decide +kernel
theorem dX6_digest_55 : decode cX6_digest 55 = .ok (.aload_n 0, 1) := by decide +kernel
theorem dX6_digest_56 : decode cX6_digest 56 = .ok (.iload_n 1, 1) := by decide +kernel
theorem dX6_digest_57 : decode cX6_digest 57 = .ok (.invokevirtual 111, 3) := by decide +kernel
theorem dX6_digest_60 : decode cX6_digest 60 = .ok (.invokevirtual 265, 3) := by decide +kernel
theorem dX6_digest_63 : decode cX6_digest 63 = .ok (.aload_n 0, 1) := by decide +kernel
theorem dX6_digest_64 : decode cX6_digest 64 = .ok (.aload_n 0, 1) := by decide +kernel
theorem dX6_digest_65 : decode cX6_digest 65 = .ok (.iload_n 1, 1) := by decide +kernel
theorem dX6_digest_66 : decode cX6_digest 66 = .ok (.invokevirtual 128, 3) := by decide +kernel
theorem dX6_digest_69 : decode cX6_digest 69 = .ok (.invokevirtual 265, 3) := by decide +kernel
theorem dX6_digest_72 : decode cX6_digest 72 = .ok (.aload_n 0, 1) := by decide +kernel
theorem dX6_digest_73 : decode cX6_digest 73 = .ok (.aload_n 0, 1) := by decide +kernel
theorem dX6_digest_74 : decode cX6_digest 74 = .ok (.iload_n 1, 1) := by decide +kernel
theorem dX6_digest_75 : decode cX6_digest 75 = .ok (.invokevirtual 131, 3) := by decide +kernel
theorem dX6_digest_78 : decode cX6_digest 78 = .ok (.invokevirtual 265, 3) := by decide +kernel
theorem dX6_digest_81 : decode cX6_digest 81 = .ok (.aload_n 0, 1) := by decide +kernel
theorem dX6_digest_82 : decode cX6_digest 82 = .ok (.aload_n 0, 1) := by decide +kernel
theorem dX6_digest_83 : decode cX6_digest 83 = .ok (.iload_n 1, 1) := by decide +kernel
theorem dX6_digest_84 : decode cX6_digest 84 = .ok (.invokevirtual 226, 3) := by decide +kernel
theorem dX6_digest_87 : decode cX6_digest 87 = .ok (.invokevirtual 265, 3) := by decide +kernel
theorem dX6_digest_90 : decode cX6_digest 90 = .ok (.iinc 1 1, 3) := by decide +kernel
theorem dX6_digest_93 : decode cX6_digest 93 = .ok (.goto (-75), 3) := by decide +kernel
theorem dX6_digest_96 : decode cX6_digest 96 = .ok (.aload_n 0, 1) := by decide +kernel
theorem dX6_digest_97 : decode cX6_digest 97 = .ok (.aload_n 0, 1) := by decide +kernel
theorem dX6_digest_98 : decode cX6_digest 98 = .ok (.invokevirtual 178, 3) := by decide +kernel
theorem dX6_digest_101 : decode cX6_digest 101 = .ok (.invokevirtual 265, 3) := by decide +kernel
theorem dX6_digest_104 : decode cX6_digest 104 = .ok (.iconst 0, 1) := by decide +kernel
theorem dX6_digest_105 : decode cX6_digest 105 = .ok (.istore_n 1, 1) := by decide +kernel
theorem dX6_digest_106 : decode cX6_digest 106 = .ok (.iload_n 1, 1) := by decide +kernel
theorem dX6_digest_107 : decode cX6_digest 107 = .ok (.iconst 4, 1) := by decide +kernel
theorem dX6_digest_108 : decode cX6_digest 108 = .ok (.if_icmp .ge 29, 3) := by decide +kernel
theorem dX6_digest_111 : decode cX6_digest 111 = .ok (.aload_n 0, 1) := by decide +kernel
theorem dX6_digest_112 : decode cX6_digest 112 = .ok (.aload_n 0, 1) := by decide +kernel
theorem dX6_digest_113 : decode cX6_digest 113 = .ok (.iconst 0, 1) := by decide +kernel
theorem dX6_digest_114 : decode cX6_digest 114 = .ok (.iload_n 1, 1) := by decide +kernel
theorem dX6_digest_115 : decode cX6_digest 115 = .ok (.invokevirtual 188, 3) := by decide +kernel
theorem dX6_digest_118 : decode cX6_digest 118 = .ok (.invokevirtual 265, 3) := by decide +kernel
theorem dX6_digest_121 : decode cX6_digest 121 = .ok (.aload_n 0, 1) := by decide +kernel
theorem dX6_digest_122 : decode cX6_digest 122 = .ok (.aload_n 0, 1) := by decide +kernel
theorem dX6_digest_123 : decode cX6_digest 123 = .ok (.iconst 1, 1) := by decide +kernel
theorem dX6_digest_124 : decode cX6_digest 124 = .ok (.iload_n 1, 1) := by decide +kernel
theorem dX6_digest_125 : decode cX6_digest 125 = .ok (.invokevirtual 188, 3) := by decide +kernel
theorem dX6_digest_128 : decode cX6_digest 128 = .ok (.invokevirtual 265, 3) := by decide +kernel
theorem dX6_digest_131 : decode cX6_digest 131 = .ok (.iinc 1 1, 3) := by decide +kernel
theorem dX6_digest_134 : decode cX6_digest 134 = .ok (.goto (-28), 3) := by decide +kernel
theorem dX6_digest_137 : decode cX6_digest 137 = .ok (.aload_n 0, 1) := by decide +kernel
theorem dX6_digest_138 : decode cX6_digest 138 = .ok (.aload_n 0, 1) := by decide +kernel
theorem dX6_digest_139 : decode cX6_digest 139 = .ok (.invokevirtual 208, 3) := by decide +kernel
theorem dX6_digest_142 : decode cX6_digest 142 = .ok (.invokevirtual 265, 3) := by decide +kernel
theorem dX6_digest_145 : decode cX6_digest 145 = .ok (.aload_n 0, 1) := by decide +kernel
theorem dX6_digest_146 : decode cX6_digest 146 = .ok (.aload_n 0, 1) := by decide +kernel
theorem dX6_digest_147 : decode cX6_digest 147 = .ok (.getfield 43, 3) := by decide +kernel
theorem dX6_digest_150 : decode cX6_digest 150 = .ok (.i2l, 1) := by decide +kernel
theorem dX6_digest_151 : decode cX6_digest 151 = .ok (.invokevirtual 265, 3) := by decide +kernel
theorem dX6_digest_154 : decode cX6_digest 154 = .ok (.iconst 0, 1) := by decide +kernel
theorem dX6_digest_155 : decode cX6_digest 155 = .ok (.istore_n 1, 1) := by decide +kernel
theorem dX6_digest_156 : decode cX6_digest 156 = .ok (.iload_n 1, 1) := by decide +kernel
theorem dX6_digest_157 : decode cX6_digest 157 = .ok (.aload_n 0, 1) := by decide +kernel
theorem dX6_digest_158 : decode cX6_digest 158 = .ok (.getfield 43, 3) := by decide +kernel
theorem dX6_digest_161 : decode cX6_digest 161 = .ok (.if_icmp .ge 40, 3) := by decide +kernel
theorem dX6_digest_164 : decode cX6_digest 164 = .ok (.aload_n 0, 1) := by decide +kernel
theorem dX6_digest_165 : decode cX6_digest 165 = .ok (.aload_n 0, 1) := by decide +kernel
theorem dX6_digest_166 : decode cX6_digest 166 = .ok (.getfield 20, 3) := by decide +kernel
theorem dX6_digest_169 : decode cX6_digest 169 = .ok (.iload_n 1, 1) := by decide +kernel
theorem dX6_digest_170 : decode cX6_digest 170 = .ok (.iaload, 1) := by decide +kernel
theorem dX6_digest_171 : decode cX6_digest 171 = .ok (.i2l, 1) := by decide +kernel
theorem dX6_digest_172 : decode cX6_digest 172 = .ok (.invokevirtual 265, 3) := by decide +kernel
theorem dX6_digest_175 : decode cX6_digest 175 = .ok (.aload_n 0, 1) := by decide +kernel
theorem dX6_digest_176 : decode cX6_digest 176 = .ok (.aload_n 0, 1) := by decide +kernel
theorem dX6_digest_177 : decode cX6_digest 177 = .ok (.getfield 23, 3) := by decide +kernel
theorem dX6_digest_180 : decode cX6_digest 180 = .ok (.iload_n 1, 1) := by decide +kernel
theorem dX6_digest_181 : decode cX6_digest 181 = .ok (.iaload, 1) := by decide +kernel
theorem dX6_digest_182 : decode cX6_digest 182 = .ok (.i2l, 1) := by decide +kernel
theorem dX6_digest_183 : decode cX6_digest 183 = .ok (.invokevirtual 265, 3) := by decide +kernel
theorem dX6_digest_186 : decode cX6_digest 186 = .ok (.aload_n 0, 1) := by decide +kernel
theorem dX6_digest_187 : decode cX6_digest 187 = .ok (.aload_n 0, 1) := by decide +kernel
theorem dX6_digest_188 : decode cX6_digest 188 = .ok (.iload_n 1, 1) := by decide +kernel
theorem dX6_digest_189 : decode cX6_digest 189 = .ok (.invokevirtual 255, 3) := by decide +kernel
theorem dX6_digest_192 : decode cX6_digest 192 = .ok (.invokevirtual 265, 3) := by decide +kernel
theorem dX6_digest_195 : decode cX6_digest 195 = .ok (.iinc 1 1, 3) := by decide +kernel
theorem dX6_digest_198 : decode cX6_digest 198 = .ok (.goto (-42), 3) := by decide +kernel
theorem dX6_digest_201 : decode cX6_digest 201 = .ok (.iconst 0, 1) := by decide +kernel
theorem dX6_digest_202 : decode cX6_digest 202 = .ok (.istore_n 1, 1) := by decide +kernel
theorem dX6_digest_203 : decode cX6_digest 203 = .ok (.iload_n 1, 1) := by decide +kernel
theorem dX6_digest_204 : decode cX6_digest 204 = .ok (.iconst 3, 1) := by decide +kernel
theorem dX6_digest_205 : decode cX6_digest 205 = .ok (.if_icmp .ge 18, 3) := by decide +kernel
theorem dX6_digest_208 : decode cX6_digest 208 = .ok (.aload_n 0, 1) := by decide +kernel
theorem dX6_digest_209 : decode cX6_digest 209 = .ok (.aload_n 0, 1) := by decide +kernel
theorem dX6_digest_210 : decode cX6_digest 210 = .ok (.iload_n 1, 1) := by decide +kernel
theorem dX6_digest_211 : decode cX6_digest 211 = .ok (.invokevirtual 223, 3) := by decide +kernel
theorem dX6_digest_214 : decode cX6_digest 214 = .ok (.invokevirtual 265, 3) := by decide +kernel
theorem dX6_digest_217 : decode cX6_digest 217 = .ok (.iinc 1 1, 3) := by decide +kernel
theorem dX6_digest_220 : decode cX6_digest 220 = .ok (.goto (-17), 3) := by decide +kernel
theorem dX6_digest_223 : decode cX6_digest 223 = .ok (.aload_n 0, 1) := by decide +kernel
theorem dX6_digest_224 : decode cX6_digest 224 = .ok (.aload_n 0, 1) := by decide +kernel
theorem dX6_digest_225 : decode cX6_digest 225 = .ok (.getfield 243, 3) := by decide +kernel
theorem dX6_digest_228 : decode cX6_digest 228 = .ok (.i2l, 1) := by decide +kernel
theorem dX6_digest_229 : decode cX6_digest 229 = .ok (.invokevirtual 265, 3) := by decide +kernel
theorem dX6_digest_232 : decode cX6_digest 232 = .ok (.iconst 0, 1) := by decide +kernel
theorem dX6_digest_233 : decode cX6_digest 233 = .ok (.istore_n 1, 1) := by decide +kernel
theorem dX6_digest_234 : decode cX6_digest 234 = .ok (.iload_n 1, 1) := by decide +kernel
theorem dX6_digest_235 : decode cX6_digest 235 = .ok (.aload_n 0, 1) := by decide +kernel
theorem dX6_digest_236 : decode cX6_digest 236 = .ok (.getfield 243, 3) := by decide +kernel
theorem dX6_digest_239 : decode cX6_digest 239 = .ok (.if_icmp .ge 20, 3) := by decide +kernel
theorem dX6_digest_242 : decode cX6_digest 242 = .ok (.aload_n 0, 1) := by decide +kernel
theorem dX6_digest_243 : decode cX6_digest 243 = .ok (.aload_n 0, 1) := by decide +kernel
theorem dX6_digest_244 : decode cX6_digest 244 = .ok (.getfield 26, 3) := by decide +kernel
theorem dX6_digest_247 : decode cX6_digest 247 = .ok (.iload_n 1, 1) := by decide +kernel
theorem dX6_digest_248 : decode cX6_digest 248 = .ok (.iaload, 1) := by decide +kernel
theorem dX6_digest_249 : decode cX6_digest 249 = .ok (.i2l, 1) := by decide +kernel
theorem dX6_digest_250 : decode cX6_digest 250 = .ok (.invokevirtual 265, 3) := by decide +kernel
theorem dX6_digest_253 : decode cX6_digest 253 = .ok (.iinc 1 1, 3) := by decide +kernel
theorem dX6_digest_256 : decode cX6_digest 256 = .ok (.goto (-22), 3) := by decide +kernel
theorem dX6_digest_259 : decode cX6_digest 259 = .ok (.aload_n 0, 1) := by decide +kernel
theorem dX6_digest_260 : decode cX6_digest 260 = .ok (.aload_n 0, 1) := by decide +kernel
theorem dX6_digest_261 : decode cX6_digest 261 = .ok (.aload_n 0, 1) := by decide +kernel
theorem dX6_digest_262 : decode cX6_digest 262 = .ok (.iconst 0, 1) := by decide +kernel
theorem dX6_digest_263 : decode cX6_digest 263 = .ok (.invokevirtual 223, 3) := by decide +kernel
theorem dX6_digest_266 : decode cX6_digest 266 = .ok (.aload_n 0, 1) := by decide +kernel
theorem dX6_digest_267 : decode cX6_digest 267 = .ok (.iconst 1, 1) := by decide +kernel
theorem dX6_digest_268 : decode cX6_digest 268 = .ok (.invokevirtual 223, 3) := by decide +kernel
theorem dX6_digest_271 : decode cX6_digest 271 = .ok (.aload_n 0, 1) := by decide +kernel
theorem dX6_digest_272 : decode cX6_digest 272 = .ok (.iconst 2, 1) := by decide +kernel
theorem dX6_digest_273 : decode cX6_digest 273 = .ok (.invokevirtual 223, 3) := by decide +kernel
theorem dX6_digest_276 : decode cX6_digest 276 = .ok (.invokevirtual 239, 3) := by decide +kernel
theorem dX6_digest_279 : decode cX6_digest 279 = .ok (.invokevirtual 265, 3) := by decide +kernel
theorem dX6_digest_282 : decode cX6_digest 282 = .ok (.aload_n 0, 1) := by decide +kernel
theorem dX6_digest_283 : decode cX6_digest 283 = .ok (.aload_n 0, 1) := by decide +kernel
theorem dX6_digest_284 : decode cX6_digest 284 = .ok (.getfield 55, 3) := by decide +kernel
theorem dX6_digest_287 : decode cX6_digest 287 = .ok (.i2l, 1) := by decide +kernel
theorem dX6_digest_288 : decode cX6_digest 288 = .ok (.invokevirtual 265, 3) := by decide +kernel
theorem dX6_digest_291 : decode cX6_digest 291 = .ok (.iconst 0, 1) := by decide +kernel
theorem dX6_digest_292 : decode cX6_digest 292 = .ok (.istore_n 1, 1) := by decide +kernel
theorem dX6_digest_293 : decode cX6_digest 293 = .ok (.iload_n 1, 1) := by decide +kernel
theorem dX6_digest_294 : decode cX6_digest 294 = .ok (.aload_n 0, 1) := by decide +kernel
theorem dX6_digest_295 : decode cX6_digest 295 = .ok (.getfield 55, 3) := by decide +kernel
theorem dX6_digest_298 : decode cX6_digest 298 = .ok (.if_icmp .ge 20, 3) := by decide +kernel
theorem dX6_digest_301 : decode cX6_digest 301 = .ok (.aload_n 0, 1) := by decide +kernel
theorem dX6_digest_302 : decode cX6_digest 302 = .ok (.aload_n 0, 1) := by decide +kernel
theorem dX6_digest_303 : decode cX6_digest 303 = .ok (.getfield 7, 3) := by decide +kernel
theorem dX6_digest_306 : decode cX6_digest 306 = .ok (.iload_n 1, 1) := by decide +kernel
theorem dX6_digest_307 : decode cX6_digest 307 = .ok (.iaload, 1) := by decide +kernel
theorem dX6_digest_308 : decode cX6_digest 308 = .ok (.i2l, 1) := by decide +kernel
theorem dX6_digest_309 : decode cX6_digest 309 = .ok (.invokevirtual 265, 3) := by decide +kernel
theorem dX6_digest_312 : decode cX6_digest 312 = .ok (.iinc 1 1, 3) := by decide +kernel
theorem dX6_digest_315 : decode cX6_digest 315 = .ok (.goto (-22), 3) := by decide +kernel
theorem dX6_digest_318 : decode cX6_digest 318 = .ok (.aload_n 0, 1) := by decide +kernel
theorem dX6_digest_319 : decode cX6_digest 319 = .ok (.getfield 260, 3) := by decide +kernel
theorem dX6_digest_322 : decode cX6_digest 322 = .ok (.lreturn, 1) := by decide +kernel
theorem dJ13_compare_74951_0 : decode cJ13_compare_74951 0 = .ok (.lload_n 0, 1) := by decide +kernel
theorem dJ13_compare_74951_1 : decode cJ13_compare_74951 1 = .ok (.lload_n 2, 1) := by decide +kernel
theorem dJ13_compare_74951_2 : decode cJ13_compare_74951 2 = .ok (.lcmp, 1) := by decide +kernel
theorem dJ13_compare_74951_3 : decode cJ13_compare_74951 3 = .ok (.ifCond .ge 7, 3) := by decide +kernel
theorem dJ13_compare_74951_6 : decode cJ13_compare_74951 6 = .ok (.iconst (-1), 1) := by decide +kernel
theorem dJ13_compare_74951_7 : decode cJ13_compare_74951 7 = .ok (.goto 14, 3) := by decide +kernel
theorem dJ13_compare_74951_10 : decode cJ13_compare_74951 10 = .ok (.lload_n 0, 1) := by decide +kernel
theorem dJ13_compare_74951_11 : decode cJ13_compare_74951 11 = .ok (.lload_n 2, 1) := by decide +kernel
theorem dJ13_compare_74951_12 : decode cJ13_compare_74951 12 = .ok (.lcmp, 1) := by decide +kernel
theorem dJ13_compare_74951_13 : decode cJ13_compare_74951 13 = .ok (.ifCond .ne 7, 3) := by decide +kernel
theorem dJ13_compare_74951_16 : decode cJ13_compare_74951 16 = .ok (.iconst 0, 1) := by decide +kernel
theorem dJ13_compare_74951_17 : decode cJ13_compare_74951 17 = .ok (.goto 4, 3) := by decide +kernel
theorem dJ13_compare_74951_20 : decode cJ13_compare_74951 20 = .ok (.iconst 1, 1) := by decide +kernel
theorem dJ13_compare_74951_21 : decode cJ13_compare_74951 21 = .ok (.ireturn, 1) := by decide +kernel
theorem dJ9_floorDiv_f86c9_0 : decode cJ9_floorDiv_f86c9 0 = .ok (.lload_n 0, 1) := by decide +kernel
theorem dJ9_floorDiv_f86c9_1 : decode cJ9_floorDiv_f86c9 1 = .ok (.lload_n 2, 1) := by decide +kernel
theorem dJ9_floorDiv_f86c9_2 : decode cJ9_floorDiv_f86c9 2 = .ok (.ldiv, 1) := by decide +kernel
theorem dJ9_floorDiv_f86c9_3 : decode cJ9_floorDiv_f86c9 3 = .ok (.lstore 4, 2) := by decide +kernel
theorem dJ9_floorDiv_f86c9_5 : decode cJ9_floorDiv_f86c9 5 = .ok (.lload_n 0, 1) := by decide +kernel
theorem dJ9_floorDiv_f86c9_6 : decode cJ9_floorDiv_f86c9 6 = .ok (.lload_n 2, 1) := by decide +kernel
theorem dJ9_floorDiv_f86c9_7 : decode cJ9_floorDiv_f86c9 7 = .ok (.lxor, 1) := by decide +kernel
theorem dJ9_floorDiv_f86c9_8 : decode cJ9_floorDiv_f86c9 8 = .ok (.lconst 0, 1) := by decide +kernel
theorem dJ9_floorDiv_f86c9_9 : decode cJ9_floorDiv_f86c9 9 = .ok (.lcmp, 1) := by decide +kernel
theorem dJ9_floorDiv_f86c9_10 : decode cJ9_floorDiv_f86c9 10 = .ok (.ifCond .ge 17, 3) := by decide +kernel
theorem dJ9_floorDiv_f86c9_13 : decode cJ9_floorDiv_f86c9 13 = .ok (.lload 4, 2) := by decide +kernel
theorem dJ9_floorDiv_f86c9_15 : decode cJ9_floorDiv_f86c9 15 = .ok (.lload_n 2, 1) := by decide +kernel
theorem dJ9_floorDiv_f86c9_16 : decode cJ9_floorDiv_f86c9 16 = .ok (.lmul, 1) := by decide +kernel
theorem dJ9_floorDiv_f86c9_17 : decode cJ9_floorDiv_f86c9 17 = .ok (.lload_n 0, 1) := by decide +kernel
theorem dJ9_floorDiv_f86c9_18 : decode cJ9_floorDiv_f86c9 18 = .ok (.lcmp, 1) := by decide +kernel
theorem dJ9_floorDiv_f86c9_19 : decode cJ9_floorDiv_f86c9 19 = .ok (.ifCond .eq 8, 3) := by decide +kernel
theorem dJ9_floorDiv_f86c9_22 : decode cJ9_floorDiv_f86c9 22 = .ok (.lload 4, 2) := by decide +kernel
theorem dJ9_floorDiv_f86c9_24 : decode cJ9_floorDiv_f86c9 24 = .ok (.lconst 1, 1) := by decide +kernel
theorem dJ9_floorDiv_f86c9_25 : decode cJ9_floorDiv_f86c9 25 = .ok (.lsub, 1) := by decide +kernel
theorem dJ9_floorDiv_f86c9_26 : decode cJ9_floorDiv_f86c9 26 = .ok (.lreturn, 1) := by decide +kernel
theorem dJ9_floorDiv_f86c9_27 : decode cJ9_floorDiv_f86c9 27 = .ok (.lload 4, 2) := by decide +kernel
theorem dJ9_floorDiv_f86c9_29 : decode cJ9_floorDiv_f86c9 29 = .ok (.lreturn, 1) := by decide +kernel
theorem dJ9_abs_067f4_0 : decode cJ9_abs_067f4 0 = .ok (.lload_n 0, 1) := by decide +kernel
theorem dJ9_abs_067f4_1 : decode cJ9_abs_067f4 1 = .ok (.lconst 0, 1) := by decide +kernel
theorem dJ9_abs_067f4_2 : decode cJ9_abs_067f4 2 = .ok (.lcmp, 1) := by decide +kernel
theorem dJ9_abs_067f4_3 : decode cJ9_abs_067f4 3 = .ok (.ifCond .ge 8, 3) := by decide +kernel
theorem dJ9_abs_067f4_6 : decode cJ9_abs_067f4 6 = .ok (.lload_n 0, 1) := by decide +kernel
theorem dJ9_abs_067f4_7 : decode cJ9_abs_067f4 7 = .ok (.lneg, 1) := by decide +kernel
theorem dJ9_abs_067f4_8 : decode cJ9_abs_067f4 8 = .ok (.goto 4, 3) := by decide +kernel
theorem dJ9_abs_067f4_11 : decode cJ9_abs_067f4 11 = .ok (.lload_n 0, 1) := by decide +kernel
theorem dJ9_abs_067f4_12 : decode cJ9_abs_067f4 12 = .ok (.lreturn, 1) := by decide +kernel
theorem dJ9_max_f86c9_0 : decode cJ9_max_f86c9 0 = .ok (.lload_n 0, 1) := by decide +kernel
theorem dJ9_max_f86c9_1 : decode cJ9_max_f86c9 1 = .ok (.lload_n 2, 1) := by decide +kernel
theorem dJ9_max_f86c9_2 : decode cJ9_max_f86c9 2 = .ok (.lcmp, 1) := by decide +kernel
theorem dJ9_max_f86c9_3 : decode cJ9_max_f86c9 3 = .ok (.ifCond .lt 7, 3) := by decide +kernel
theorem dJ9_max_f86c9_6 : decode cJ9_max_f86c9 6 = .ok (.lload_n 0, 1) := by decide +kernel
theorem dJ9_max_f86c9_7 : decode cJ9_max_f86c9 7 = .ok (.goto 4, 3) := by decide +kernel
theorem dJ9_max_f86c9_10 : decode cJ9_max_f86c9 10 = .ok (.lload_n 2, 1) := by decide +kernel
theorem dJ9_max_f86c9_11 : decode cJ9_max_f86c9 11 = .ok (.lreturn, 1) := by decide +kernel
theorem dJ9_min_7cf53_0 : decode cJ9_min_7cf53 0 = .ok (.iload_n 0, 1) := by decide +kernel
theorem dJ9_min_7cf53_1 : decode cJ9_min_7cf53 1 = .ok (.iload_n 1, 1) := by decide +kernel
theorem dJ9_min_7cf53_2 : decode cJ9_min_7cf53 2 = .ok (.if_icmp .gt 7, 3) := by decide +kernel
theorem dJ9_min_7cf53_5 : decode cJ9_min_7cf53 5 = .ok (.iload_n 0, 1) := by decide +kernel
theorem dJ9_min_7cf53_6 : decode cJ9_min_7cf53 6 = .ok (.goto 4, 3) := by decide +kernel
theorem dJ9_min_7cf53_9 : decode cJ9_min_7cf53 9 = .ok (.iload_n 1, 1) := by decide +kernel
theorem dJ9_min_7cf53_10 : decode cJ9_min_7cf53 10 = .ok (.ireturn, 1) := by decide +kernel
