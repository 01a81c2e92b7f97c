set_option maxRecDepth 20000 in
theorem ggL_law_X5_doubletCount : GoodIn wsL_law wsX5_doubletCount := goodIn_r _ [491, 24, 20, 415, 416, 417, 23, 418, 419, 420, 375, 376, 19, 377, 294, 295, 296, 297, 44, 298, 299, 300, 301, 302, 43, 45, 421, 422, 423, 424, 49, 50, 51, 425, 426, 124, 427, 52, 428, 398, 399, 400, 401, 333, 334, 335, 429, 430, 814, 815, 816, 817, 818, 844, 845, 846, 847, 848, 849, 839, 840, 841, 842, 843] (by decide +kernel) (by decide +kernel)
set_option maxRecDepth 20000 in
theorem gL_law_X5_doubletCount : GoodIn wsL_law (wsV RL 75 RX5 yX5_doubletCount wsX5_doubletCount) := goodIn_app (goodIn_of _ (by decide +kernel)) ggL_law_X5_doubletCount
set_option maxRecDepth 20000 in
theorem ggL_law_X6_doubletCount : GoodIn wsL_law wsX6_doubletCount := goodIn_r _ [495, 462, 463, 464, 5, 465, 196, 466, 467, 468, 469, 385, 386, 387, 388, 318, 319, 320, 321, 69, 322, 323, 324, 325, 326, 819, 820, 821, 822, 823, 824, 825, 826, 827, 828, 829, 830, 831, 832, 833, 834, 835, 836] (by decide +kernel) (by decide +kernel)
set_option maxRecDepth 20000 in
theorem gL_law_X6_doubletCount : GoodIn wsL_law (wsV RL 78 RX6 yX6_doubletCount wsX6_doubletCount) := goodIn_app (goodIn_of _ (by decide +kernel)) ggL_law_X6_doubletCount
set_option maxRecDepth 20000 in
theorem ggL_law_X5_tripletPower : GoodIn wsL_law wsX5_tripletPower := goodIn_r _ [499, 20, 212, 158, 79, 355, 214, 215, 216, 19, 217, 186, 371, 372, 2, 373, 500, 501, 502, 503, 294, 295, 296, 297, 44, 298, 504, 398, 399, 400, 299, 300, 301, 302, 43, 45, 401, 333, 334, 335, 337, 303, 304, 305, 306, 307, 308, 814, 815, 816, 817, 818, 839, 840, 841, 842, 843] (by decide +kernel) (by decide +kernel)
set_option maxRecDepth 20000 in
theorem gL_law_X5_tripletPower : GoodIn wsL_law (wsV RL 79 RX5 yX5_tripletPower wsX5_tripletPower) := goodIn_app (goodIn_of _ (by decide +kernel)) ggL_law_X5_tripletPower
set_option maxRecDepth 20000 in
theorem ggL_law_X6_tripletPower : GoodIn wsL_law wsX6_tripletPower := goodIn_r _ [508, 236, 197, 383, 384, 150, 92, 365, 239, 240, 241, 5, 242, 196, 95, 96, 97, 509, 510, 511, 512, 318, 319, 320, 321, 69, 322, 513, 514, 515, 516, 323, 324, 325, 326, 347, 348, 349, 350, 517, 518, 519, 520, 389, 390, 391, 819, 820, 821, 822, 823, 824, 825, 826, 827, 828, 829, 830, 831, 832, 833, 834, 835, 836] (by decide +kernel) (by decide +kernel)
set_option maxRecDepth 20000 in
theorem gL_law_X6_tripletPower : GoodIn wsL_law (wsV RL 83 RX6 yX6_tripletPower wsX6_tripletPower) := goodIn_app (goodIn_of _ (by decide +kernel)) ggL_law_X6_tripletPower
set_option maxRecDepth 20000 in
theorem ggL_law_X5_bestTriplet : GoodIn wsL_law wsX5_bestTriplet := goodIn_r _ [524, 355, 20, 525, 526, 527, 2, 528, 529, 530, 531, 124, 532, 500, 501, 502, 19, 503, 294, 295, 296, 297, 44, 298, 504, 398, 399, 400, 299, 300, 301, 302, 43, 45, 401, 333, 334, 335, 533, 534, 535, 536, 537, 426, 427, 337, 303, 304, 305, 306, 307, 308, 814, 815, 816, 817, 818, 839, 840, 841, 842, 843] (by decide +kernel) (by decide +kernel)
set_option maxRecDepth 20000 in
theorem gL_law_X5_bestTriplet : GoodIn wsL_law (wsV RL 84 RX5 yX5_bestTriplet wsX5_bestTriplet) := goodIn_app (goodIn_of _ (by decide +kernel)) ggL_law_X5_bestTriplet
set_option maxRecDepth 20000 in
theorem ggL_law_X6_bestTriplet : GoodIn wsL_law wsX6_bestTriplet := goodIn_r _ [541, 542, 543, 544, 5, 545, 365, 196, 546, 384, 460, 509, 510, 511, 512, 318, 319, 320, 321, 69, 322, 513, 514, 515, 516, 323, 324, 325, 326, 347, 348, 349, 350, 547, 548, 549, 550, 517, 518, 519, 520, 389, 390, 391, 478, 479, 480, 819, 820, 821, 822, 823, 824, 825, 826, 827, 828, 829, 830, 831, 832, 833, 834, 835, 836] (by decide +kernel) (by decide +kernel)
set_option maxRecDepth 20000 in
theorem gL_law_X6_bestTriplet : GoodIn wsL_law (wsV RL 87 RX6 yX6_bestTriplet wsX6_bestTriplet) := goodIn_app (goodIn_of _ (by decide +kernel)) ggL_law_X6_bestTriplet
set_option maxRecDepth 20000 in
theorem ggL_law_X5_addLens : GoodIn wsL_law wsX5_addLens := goodIn_r _ [554, 20, 212, 555, 556, 79, 28, 80, 214, 215, 216, 19, 217, 186, 557, 558, 559, 27, 560, 222, 57, 58, 814, 815, 816, 817, 818, 850, 851, 852, 839, 840, 841, 842, 843] (by decide +kernel) (by decide +kernel)
set_option maxRecDepth 20000 in
theorem gL_law_X5_addLens : GoodIn wsL_law (wsV RL 88 RX5 yX5_addLens wsX5_addLens) := goodIn_app (goodIn_of _ (by decide +kernel)) ggL_law_X5_addLens
set_option maxRecDepth 20000 in
theorem ggL_law_X6_addLens : GoodIn wsL_law wsX6_addLens := goodIn_r _ [564, 236, 565, 566, 92, 237, 94, 70, 71, 239, 240, 241, 5, 242, 196, 95, 96, 97, 819, 820, 821, 822, 823, 824, 825, 826, 827, 828, 829, 830, 831, 832, 833, 834, 835, 836] (by decide +kernel) (by decide +kernel)
set_option maxRecDepth 20000 in
theorem gL_law_X6_addLens : GoodIn wsL_law (wsV RL 91 RX6 yX6_addLens wsX6_addLens) := goodIn_app (goodIn_of _ (by decide +kernel)) ggL_law_X6_addLens
set_option maxRecDepth 20000 in
theorem ggL_law_X5_removeLens : GoodIn wsL_law wsX5_removeLens := goodIn_r _ [570, 28, 571, 572, 573, 574, 27, 575, 222, 576, 577, 578, 579, 57, 58, 580, 814, 815, 816, 817, 818, 850, 851, 852] (by decide +kernel) (by decide +kernel)
set_option maxRecDepth 20000 in
theorem gL_law_X5_removeLens : GoodIn wsL_law (wsV RL 92 RX5 yX5_removeLens wsX5_removeLens) := goodIn_app (goodIn_of _ (by decide +kernel)) ggL_law_X5_removeLens
set_option maxRecDepth 20000 in
theorem ggL_law_X6_removeLens : GoodIn wsL_law wsX6_removeLens := goodIn_r _ [584, 585, 237, 70, 71, 586, 587, 588, 5, 589, 95, 96, 97, 819, 820, 821, 822, 823, 824, 825, 826, 827, 828, 829, 830, 831, 832, 833, 834, 835, 836] (by decide +kernel) (by decide +kernel)
set_option maxRecDepth 20000 in
theorem gL_law_X6_removeLens : GoodIn wsL_law (wsV RL 95 RX6 yX6_removeLens wsX6_removeLens) := goodIn_app (goodIn_of _ (by decide +kernel)) ggL_law_X6_removeLens
set_option maxRecDepth 20000 in
theorem ggL_law_X5_lensCount : GoodIn wsL_law wsX5_lensCount := goodIn_r _ [593, 28, 814, 815, 816, 817, 818, 850, 851, 852] (by decide +kernel) (by decide +kernel)
set_option maxRecDepth 20000 in
theorem gL_law_X5_lensCount : GoodIn wsL_law (wsV RL 96 RX5 yX5_lensCount wsX5_lensCount) := goodIn_app (goodIn_of _ (by decide +kernel)) ggL_law_X5_lensCount
set_option maxRecDepth 20000 in
theorem ggL_law_X6_lensCount : GoodIn wsL_law wsX6_lensCount := goodIn_r _ [597, 237, 819, 820, 821, 822, 823, 824, 825, 826, 827, 828, 829, 830, 831, 832, 833, 834, 835, 836] (by decide +kernel) (by decide +kernel)
set_option maxRecDepth 20000 in
theorem gL_law_X6_lensCount : GoodIn wsL_law (wsV RL 99 RX6 yX6_lensCount wsX6_lensCount) := goodIn_app (goodIn_of _ (by decide +kernel)) ggL_law_X6_lensCount
set_option maxRecDepth 20000 in
theorem ggL_law_X5_systemPower : GoodIn wsL_law wsX5_systemPower := goodIn_r _ [601, 28, 20, 79, 255, 256, 2, 257, 602, 603, 604, 27, 605, 222, 57, 606, 607, 608, 609, 610, 58, 611, 612, 259, 260, 19, 261, 43, 44, 45, 613, 295, 296, 297, 298, 303, 304, 305, 306, 307, 308, 814, 815, 816, 817, 818, 850, 851, 852, 839, 840, 841, 842, 843] (by decide +kernel) (by decide +kernel)
set_option maxRecDepth 20000 in
theorem gL_law_X5_systemPower : GoodIn wsL_law (wsV RL 100 RX5 yX5_systemPower wsX5_systemPower) := goodIn_app (goodIn_of _ (by decide +kernel)) ggL_law_X5_systemPower
set_option maxRecDepth 20000 in
theorem ggL_law_X6_systemPower : GoodIn wsL_law wsX6_systemPower := goodIn_r _ [617, 92, 266, 267, 5, 268, 150, 95, 96, 97, 618, 619, 620, 621, 237, 70, 622, 623, 624, 625, 71, 317, 69, 322, 318, 319, 320, 321, 389, 390, 391, 819, 820, 821, 822, 823, 824, 825, 826, 827, 828, 829, 830, 831, 832, 833, 834, 835, 836] (by decide +kernel) (by decide +kernel)
set_option maxRecDepth 20000 in
theorem gL_law_X6_systemPower : GoodIn wsL_law (wsV RL 103 RX6 yX6_systemPower wsX6_systemPower) := goodIn_app (goodIn_of _ (by decide +kernel)) ggL_law_X6_systemPower
set_option maxRecDepth 20000 in
theorem ggL_law_X5_balancePower : GoodIn wsL_law wsX5_balancePower := goodIn_r _ [629, 20, 212, 28, 370, 214, 215, 216, 19, 217, 186, 602, 603, 604, 27, 605, 222, 57, 606, 607, 608, 609, 610, 58, 611, 612, 259, 260, 261, 43, 44, 45, 613, 295, 296, 297, 298, 303, 2, 304, 305, 306, 307, 308, 378, 336, 300, 301, 302, 337, 814, 815, 816, 817, 818, 839, 840, 841, 842, 843, 850, 851, 852] (by decide +kernel) (by decide +kernel)
set_option maxRecDepth 20000 in
theorem gL_law_X5_balancePower : GoodIn wsL_law (wsV RL 104 RX5 yX5_balancePower wsX5_balancePower) := goodIn_app (goodIn_of _ (by decide +kernel)) ggL_law_X5_balancePower
