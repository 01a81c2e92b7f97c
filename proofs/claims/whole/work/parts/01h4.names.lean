set_option maxRecDepth 20000 in
theorem ggL_law_X6_balancePower : GoodIn wsL_law wsX6_balancePower := goodIn_r _ [633, 236, 239, 240, 241, 5, 242, 196, 95, 96, 97, 634, 635, 636, 637, 317, 618, 619, 620, 621, 237, 70, 622, 623, 624, 625, 71, 69, 322, 318, 319, 320, 321, 389, 390, 391, 323, 324, 325, 326, 819, 820, 821, 822, 823, 824, 825, 826, 827, 828, 829, 830, 831, 832, 833, 834, 835, 836] (by decide +kernel) (by decide +kernel)
set_option maxRecDepth 20000 in
theorem gL_law_X6_balancePower : GoodIn wsL_law (wsV RL 107 RX6 yX6_balancePower wsX6_balancePower) := goodIn_app (goodIn_of _ (by decide +kernel)) ggL_law_X6_balancePower
set_option maxRecDepth 20000 in
theorem ggL_law_X5_findWrongGlass : GoodIn wsL_law wsX5_findWrongGlass := goodIn_r _ [641, 79, 28, 20, 355, 642, 643, 2, 644, 645, 646, 602, 603, 604, 27, 605, 222, 57, 606, 607, 608, 609, 610, 58, 611, 612, 259, 260, 19, 261, 43, 44, 45, 613, 295, 296, 297, 298, 303, 304, 305, 306, 307, 308, 647, 648, 649, 650, 537, 426, 124, 427, 651, 652, 653, 654, 655, 656, 657, 658, 814, 815, 816, 817, 818, 850, 851, 852, 839, 840, 841, 842, 843] (by decide +kernel) (by decide +kernel)
set_option maxRecDepth 20000 in
theorem gL_law_X5_findWrongGlass : GoodIn wsL_law (wsV RL 110 RX5 yX5_findWrongGlass wsX5_findWrongGlass) := goodIn_app (goodIn_of _ (by decide +kernel)) ggL_law_X5_findWrongGlass
set_option maxRecDepth 20000 in
theorem ggL_law_X6_findWrongGlass : GoodIn wsL_law wsX6_findWrongGlass := goodIn_r _ [662, 92, 663, 664, 5, 665, 666, 667, 95, 96, 97, 668, 669, 670, 671, 237, 196, 365, 74, 70, 546, 460, 672, 673, 674, 675, 618, 619, 620, 621, 622, 623, 624, 625, 71, 317, 69, 322, 318, 319, 320, 321, 389, 390, 391, 478, 479, 480, 819, 820, 821, 822, 823, 824, 825, 826, 827, 828, 829, 830, 831, 832, 833, 834, 835, 836] (by decide +kernel) (by decide +kernel)
set_option maxRecDepth 20000 in
theorem gL_law_X6_findWrongGlass : GoodIn wsL_law (wsV RL 114 RX6 yX6_findWrongGlass wsX6_findWrongGlass) := goodIn_app (goodIn_of _ (by decide +kernel)) ggL_law_X6_findWrongGlass
set_option maxRecDepth 20000 in
theorem ggL_law_X5_addPlate : GoodIn wsL_law wsX5_addPlate := goodIn_r _ [679, 680, 79, 32, 158, 80, 681, 682, 683, 31, 684, 685, 62, 686, 687, 688, 689, 814, 815, 816, 817, 818, 853, 854] (by decide +kernel) (by decide +kernel)
set_option maxRecDepth 20000 in
theorem gL_law_X5_addPlate : GoodIn wsL_law (wsV RL 115 RX5 yX5_addPlate wsX5_addPlate) := goodIn_app (goodIn_of _ (by decide +kernel)) ggL_law_X5_addPlate
set_option maxRecDepth 20000 in
theorem ggL_law_X6_addPlate : GoodIn wsL_law wsX6_addPlate := goodIn_r _ [693, 317, 406, 92, 694, 72, 197, 94, 95, 96, 5, 97, 819, 820, 821, 822, 823, 824, 825, 826, 827, 828, 829, 830, 831, 832, 833, 834, 835, 836] (by decide +kernel) (by decide +kernel)
set_option maxRecDepth 20000 in
theorem gL_law_X6_addPlate : GoodIn wsL_law (wsV RL 118 RX6 yX6_addPlate wsX6_addPlate) := goodIn_app (goodIn_of _ (by decide +kernel)) ggL_law_X6_addPlate
set_option maxRecDepth 20000 in
theorem ggL_law_X5_plateCount : GoodIn wsL_law wsX5_plateCount := goodIn_r _ [698, 32, 814, 815, 816, 817, 818, 853, 854] (by decide +kernel) (by decide +kernel)
set_option maxRecDepth 20000 in
theorem gL_law_X5_plateCount : GoodIn wsL_law (wsV RL 119 RX5 yX5_plateCount wsX5_plateCount) := goodIn_app (goodIn_of _ (by decide +kernel)) ggL_law_X5_plateCount
set_option maxRecDepth 20000 in
theorem ggL_law_X6_plateCount : GoodIn wsL_law wsX6_plateCount := goodIn_r _ [702, 694, 819, 820, 821, 822, 823, 824, 825, 826, 827, 828, 829, 830, 831, 832, 833, 834, 835, 836] (by decide +kernel) (by decide +kernel)
set_option maxRecDepth 20000 in
theorem gL_law_X6_plateCount : GoodIn wsL_law (wsV RL 122 RX6 yX6_plateCount wsX6_plateCount) := goodIn_app (goodIn_of _ (by decide +kernel)) ggL_law_X6_plateCount
set_option maxRecDepth 20000 in
theorem ggL_law_X5_nearestPlate : GoodIn wsL_law wsX5_nearestPlate := goodIn_r _ [706, 32, 355, 707, 708, 709, 31, 710, 685, 62, 711, 426, 124, 427, 814, 815, 816, 817, 818, 853, 854] (by decide +kernel) (by decide +kernel)
set_option maxRecDepth 20000 in
theorem gL_law_X5_nearestPlate : GoodIn wsL_law (wsV RL 123 RX5 yX5_nearestPlate wsX5_nearestPlate) := goodIn_app (goodIn_of _ (by decide +kernel)) ggL_law_X5_nearestPlate
set_option maxRecDepth 20000 in
theorem ggL_law_X6_nearestPlate : GoodIn wsL_law wsX6_nearestPlate := goodIn_r _ [715, 694, 72, 365, 478, 479, 5, 480, 819, 820, 821, 822, 823, 824, 825, 826, 827, 828, 829, 830, 831, 832, 833, 834, 835, 836] (by decide +kernel) (by decide +kernel)
set_option maxRecDepth 20000 in
theorem gL_law_X6_nearestPlate : GoodIn wsL_law (wsV RL 126 RX6 yX6_nearestPlate wsX6_nearestPlate) := goodIn_app (goodIn_of _ (by decide +kernel)) ggL_law_X6_nearestPlate
set_option maxRecDepth 20000 in
theorem ggL_law_X5_bestSurfaces : GoodIn wsL_law wsX5_bestSurfaces := goodIn_r _ [719, 28, 571, 20, 355, 32, 529, 537, 426, 124, 427, 572, 573, 574, 27, 575, 222, 655, 656, 657, 658, 57, 378, 295, 296, 19, 297, 44, 298, 720, 721, 722, 723, 58, 724, 725, 726, 2, 727, 728, 729, 730, 731, 31, 732, 62, 337, 303, 304, 305, 306, 307, 308, 814, 815, 816, 817, 818, 853, 854, 850, 851, 852, 839, 840, 841, 842, 843] (by decide +kernel) (by decide +kernel)
set_option maxRecDepth 20000 in
theorem gL_law_X5_bestSurfaces : GoodIn wsL_law (wsV RL 127 RX5 yX5_bestSurfaces wsX5_bestSurfaces) := goodIn_app (goodIn_of _ (by decide +kernel)) ggL_law_X5_bestSurfaces
set_option maxRecDepth 20000 in
theorem ggL_law_X6_bestSurfaces : GoodIn wsL_law wsX6_bestSurfaces := goodIn_r _ [736, 585, 586, 587, 588, 5, 589, 237, 95, 96, 97, 737, 738, 739, 740, 365, 694, 546, 70, 71, 317, 741, 742, 743, 744, 745, 72, 746, 747, 748, 749, 566, 318, 319, 320, 321, 69, 322, 389, 390, 391, 478, 479, 480, 819, 820, 821, 822, 823, 824, 825, 826, 827, 828, 829, 830, 831, 832, 833, 834, 835, 836] (by decide +kernel) (by decide +kernel)
set_option maxRecDepth 20000 in
theorem gL_law_X6_bestSurfaces : GoodIn wsL_law (wsV RL 130 RX6 yX6_bestSurfaces wsX6_bestSurfaces) := goodIn_app (goodIn_of _ (by decide +kernel)) ggL_law_X6_bestSurfaces
set_option maxRecDepth 20000 in
theorem ggL_law_X5_surfacePower : GoodIn wsL_law wsX5_surfacePower := goodIn_r _ [753, 20, 212, 79, 32, 214, 215, 216, 19, 217, 186, 754, 755, 756, 31, 757, 685, 378, 295, 296, 297, 44, 298, 724, 725, 726, 2, 727, 728, 729, 730, 731, 732, 62, 337, 303, 304, 305, 306, 307, 308, 814, 815, 816, 817, 818, 839, 840, 841, 842, 843, 853, 854] (by decide +kernel) (by decide +kernel)
set_option maxRecDepth 20000 in
theorem gL_law_X5_surfacePower : GoodIn wsL_law (wsV RL 131 RX5 yX5_surfacePower wsX5_surfacePower) := goodIn_app (goodIn_of _ (by decide +kernel)) ggL_law_X5_surfacePower
set_option maxRecDepth 20000 in
theorem ggL_law_X6_surfacePower : GoodIn wsL_law wsX6_surfacePower := goodIn_r _ [761, 236, 694, 92, 239, 240, 241, 5, 242, 196, 95, 96, 97, 742, 743, 744, 745, 72, 746, 747, 748, 749, 566, 318, 319, 320, 321, 69, 322, 389, 390, 391, 819, 820, 821, 822, 823, 824, 825, 826, 827, 828, 829, 830, 831, 832, 833, 834, 835, 836] (by decide +kernel) (by decide +kernel)
set_option maxRecDepth 20000 in
theorem gL_law_X6_surfacePower : GoodIn wsL_law (wsV RL 134 RX6 yX6_surfacePower wsX6_surfacePower) := goodIn_app (goodIn_of _ (by decide +kernel)) ggL_law_X6_surfacePower
