set_option maxRecDepth 20000 in
theorem ggL_law_X5_init : GoodIn wsL_law wsX5_init := goodIn_r _ [9, 10, 11, 12, 13, 14, 15, 16, 17, 18, 19, 20, 21, 22, 23, 24, 25, 26, 27, 28, 29, 30, 31, 32, 33, 34, 35, 36, 37, 38, 39, 40, 41, 42, 43, 44, 45, 46, 47, 48, 49, 50, 51, 52, 53, 54, 55, 56, 57, 58, 59, 60, 61, 62, 837, 838, 814, 815, 816, 817, 818, 839, 840, 841, 842, 843, 844, 845, 846, 847, 848, 849, 850, 851, 852, 853, 854] (by decide +kernel) (by decide +kernel)
set_option maxRecDepth 20000 in
theorem gL_law_X5_init : GoodIn wsL_law (wsX5_init) := ggL_law_X5_init
set_option maxRecDepth 20000 in
theorem ggL_law_X6_init : GoodIn wsL_law wsX6_init := goodIn_r _ [65, 66, 11, 12, 36, 67, 41, 68, 69, 70, 71, 72, 73, 74, 819, 820, 821, 822, 823, 824, 825, 826, 827, 828, 829, 830, 831, 832, 833, 834, 835, 836] (by decide +kernel) (by decide +kernel)
set_option maxRecDepth 20000 in
theorem gL_law_X6_init : GoodIn wsL_law (wsX6_init) := ggL_law_X6_init
set_option maxRecDepth 20000 in
theorem ggL_law_X5_append : GoodIn wsL_law wsX5_append := goodIn_r _ [78, 79, 16, 80, 81, 82, 83, 15, 84, 85, 37, 814, 815, 816, 817, 818, 837, 838] (by decide +kernel) (by decide +kernel)
set_option maxRecDepth 20000 in
theorem gL_law_X5_append : GoodIn wsL_law (wsV RL 13 RX5 yX5_append wsX5_append) := goodIn_app (goodIn_of _ (by decide +kernel)) ggL_law_X5_append
set_option maxRecDepth 20000 in
theorem ggL_law_X6_append : GoodIn wsL_law wsX6_append := goodIn_r _ [89, 90, 91, 92, 93, 94, 67, 95, 96, 5, 97, 819, 820, 821, 822, 823, 824, 825, 826, 827, 828, 829, 830, 831, 832, 833, 834, 835, 836] (by decide +kernel) (by decide +kernel)
set_option maxRecDepth 20000 in
theorem gL_law_X6_append : GoodIn wsL_law (wsV RL 17 RX6 yX6_append wsX6_append) := goodIn_app (goodIn_of _ (by decide +kernel)) ggL_law_X6_append
set_option maxRecDepth 20000 in
theorem ggL_law_X5_clearBuffer : GoodIn wsL_law wsX5_clearBuffer := goodIn_r _ [101, 16, 102, 103, 104, 15, 105, 85, 814, 815, 816, 817, 818, 837, 838] (by decide +kernel) (by decide +kernel)
set_option maxRecDepth 20000 in
theorem gL_law_X5_clearBuffer : GoodIn wsL_law (wsV RL 18 RX5 yX5_clearBuffer wsX5_clearBuffer) := goodIn_app (goodIn_of _ (by decide +kernel)) ggL_law_X5_clearBuffer
set_option maxRecDepth 20000 in
theorem ggL_law_X6_clearBuffer : GoodIn wsL_law wsX6_clearBuffer := goodIn_r _ [109, 93, 819, 820, 821, 822, 823, 824, 825, 826, 827, 828, 829, 830, 831, 832, 833, 834, 835, 836] (by decide +kernel) (by decide +kernel)
set_option maxRecDepth 20000 in
theorem gL_law_X6_clearBuffer : GoodIn wsL_law (wsV RL 22 RX6 yX6_clearBuffer wsX6_clearBuffer) := goodIn_app (goodIn_of _ (by decide +kernel)) ggL_law_X6_clearBuffer
set_option maxRecDepth 20000 in
theorem ggL_law_X5_errorPosition : GoodIn wsL_law wsX5_errorPosition := goodIn_r _ [113, 16, 114, 115, 116, 15, 117, 85, 37, 118, 119, 120, 121, 122, 123, 124, 125, 126, 127, 128, 129, 130, 131, 132, 133, 134, 814, 815, 816, 817, 818, 837, 838] (by decide +kernel) (by decide +kernel)
set_option maxRecDepth 20000 in
theorem gL_law_X5_errorPosition : GoodIn wsL_law (wsV RL 23 RX5 yX5_errorPosition wsX5_errorPosition) := goodIn_app (goodIn_of _ (by decide +kernel)) ggL_law_X5_errorPosition
set_option maxRecDepth 20000 in
theorem ggL_law_X6_errorPosition : GoodIn wsL_law wsX6_errorPosition := goodIn_r _ [138, 139, 140, 141, 142, 5, 143, 144, 93, 67, 145, 146, 147, 148, 149, 150, 73, 151, 152, 95, 96, 97, 819, 820, 821, 822, 823, 824, 825, 826, 827, 828, 829, 830, 831, 832, 833, 834, 835, 836] (by decide +kernel) (by decide +kernel)
set_option maxRecDepth 20000 in
theorem gL_law_X6_errorPosition : GoodIn wsL_law (wsV RL 26 RX6 yX6_errorPosition wsX6_errorPosition) := goodIn_app (goodIn_of _ (by decide +kernel)) ggL_law_X6_errorPosition
set_option maxRecDepth 20000 in
theorem ggL_law_X5_addGlass : GoodIn wsL_law wsX5_addGlass := goodIn_r _ [156, 16, 157, 79, 20, 80, 158, 159, 160, 161, 15, 162, 85, 118, 119, 120, 121, 122, 123, 124, 125, 37, 126, 127, 128, 129, 130, 131, 163, 115, 116, 117, 132, 133, 134, 164, 165, 166, 167, 168, 169, 170, 171, 172, 173, 2, 174, 175, 176, 177, 178, 179, 180, 181, 182, 183, 184, 19, 185, 186, 42, 187, 188, 189, 190, 43, 44, 45, 102, 103, 104, 105, 814, 815, 816, 817, 818, 839, 840, 841, 842, 843, 837, 838] (by decide +kernel) (by decide +kernel)
set_option maxRecDepth 20000 in
theorem gL_law_X5_addGlass : GoodIn wsL_law (wsV RL 27 RX5 yX5_addGlass wsX5_addGlass) := goodIn_app (goodIn_of _ (by decide +kernel)) ggL_law_X5_addGlass
set_option maxRecDepth 20000 in
theorem ggL_law_X6_addGlass : GoodIn wsL_law wsX6_addGlass := goodIn_r _ [194, 151, 195, 92, 196, 94, 144, 197, 68, 69, 73, 93, 140, 141, 142, 5, 143, 67, 145, 146, 147, 148, 149, 150, 139, 152, 95, 96, 97, 198, 199, 200, 201, 202, 203, 204, 205, 206, 207, 819, 820, 821, 822, 823, 824, 825, 826, 827, 828, 829, 830, 831, 832, 833, 834, 835, 836] (by decide +kernel) (by decide +kernel)
set_option maxRecDepth 20000 in
theorem gL_law_X6_addGlass : GoodIn wsL_law (wsV RL 30 RX6 yX6_addGlass wsX6_addGlass) := goodIn_app (goodIn_of _ (by decide +kernel)) ggL_law_X6_addGlass
set_option maxRecDepth 20000 in
theorem ggL_law_X5_removeGlass : GoodIn wsL_law wsX5_removeGlass := goodIn_r _ [211, 20, 212, 28, 213, 214, 215, 216, 19, 217, 186, 218, 219, 220, 27, 221, 222, 57, 223, 224, 225, 226, 42, 43, 44, 45, 227, 228, 229, 230, 231, 814, 815, 816, 817, 818, 839, 840, 841, 842, 843, 850, 851, 852] (by decide +kernel) (by decide +kernel)
set_option maxRecDepth 20000 in
theorem gL_law_X5_removeGlass : GoodIn wsL_law (wsV RL 31 RX5 yX5_removeGlass wsX5_removeGlass) := goodIn_app (goodIn_of _ (by decide +kernel)) ggL_law_X5_removeGlass
set_option maxRecDepth 20000 in
theorem ggL_law_X6_removeGlass : GoodIn wsL_law wsX6_removeGlass := goodIn_r _ [235, 236, 237, 70, 238, 196, 68, 69, 239, 240, 241, 5, 242, 95, 96, 97, 819, 820, 821, 822, 823, 824, 825, 826, 827, 828, 829, 830, 831, 832, 833, 834, 835, 836] (by decide +kernel) (by decide +kernel)
set_option maxRecDepth 20000 in
theorem gL_law_X6_removeGlass : GoodIn wsL_law (wsV RL 34 RX6 yX6_removeGlass wsX6_removeGlass) := goodIn_app (goodIn_of _ (by decide +kernel)) ggL_law_X6_removeGlass
set_option maxRecDepth 20000 in
theorem ggL_law_X5_glassCount : GoodIn wsL_law wsX5_glassCount := goodIn_r _ [246, 20, 814, 815, 816, 817, 818, 839, 840, 841, 842, 843] (by decide +kernel) (by decide +kernel)
set_option maxRecDepth 20000 in
theorem gL_law_X5_glassCount : GoodIn wsL_law (wsV RL 35 RX5 yX5_glassCount wsX5_glassCount) := goodIn_app (goodIn_of _ (by decide +kernel)) ggL_law_X5_glassCount
set_option maxRecDepth 20000 in
theorem ggL_law_X6_glassCount : GoodIn wsL_law wsX6_glassCount := goodIn_r _ [250, 196, 819, 820, 821, 822, 823, 824, 825, 826, 827, 828, 829, 830, 831, 832, 833, 834, 835, 836] (by decide +kernel) (by decide +kernel)
set_option maxRecDepth 20000 in
theorem gL_law_X6_glassCount : GoodIn wsL_law (wsV RL 38 RX6 yX6_glassCount wsX6_glassCount) := goodIn_app (goodIn_of _ (by decide +kernel)) ggL_law_X6_glassCount
set_option maxRecDepth 20000 in
theorem ggL_law_X5_index : GoodIn wsL_law wsX5_index := goodIn_r _ [254, 20, 212, 79, 214, 215, 216, 19, 217, 186, 255, 256, 2, 257, 258, 259, 260, 261, 43, 44, 45, 814, 815, 816, 817, 818, 839, 840, 841, 842, 843] (by decide +kernel) (by decide +kernel)
set_option maxRecDepth 20000 in
theorem gL_law_X5_index : GoodIn wsL_law (wsV RL 39 RX5 yX5_index wsX5_index) := goodIn_app (goodIn_of _ (by decide +kernel)) ggL_law_X5_index
