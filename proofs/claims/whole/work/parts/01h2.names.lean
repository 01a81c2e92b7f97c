set_option maxRecDepth 20000 in
theorem ggL_law_X6_index : GoodIn wsL_law wsX6_index := goodIn_r _ [265, 236, 69, 92, 239, 240, 241, 5, 242, 196, 95, 96, 97, 266, 267, 268, 150, 819, 820, 821, 822, 823, 824, 825, 826, 827, 828, 829, 830, 831, 832, 833, 834, 835, 836] (by decide +kernel) (by decide +kernel)
set_option maxRecDepth 20000 in
theorem gL_law_X6_index : GoodIn wsL_law (wsV RL 43 RX6 yX6_index wsX6_index) := goodIn_app (goodIn_of _ (by decide +kernel)) ggL_law_X6_index
set_option maxRecDepth 20000 in
theorem ggL_law_X5_placeByName : GoodIn wsL_law wsX5_placeByName := goodIn_r _ [272, 20, 212, 214, 215, 216, 19, 217, 186, 273, 274, 275, 276, 42, 814, 815, 816, 817, 818, 839, 840, 841, 842, 843] (by decide +kernel) (by decide +kernel)
set_option maxRecDepth 20000 in
theorem gL_law_X5_placeByName : GoodIn wsL_law (wsV RL 44 RX5 yX5_placeByName wsX5_placeByName) := goodIn_app (goodIn_of _ (by decide +kernel)) ggL_law_X5_placeByName
set_option maxRecDepth 20000 in
theorem ggL_law_X6_placeByName : GoodIn wsL_law wsX6_placeByName := goodIn_r _ [280, 236, 239, 240, 241, 5, 242, 196, 95, 96, 97, 281, 282, 283, 284, 68, 819, 820, 821, 822, 823, 824, 825, 826, 827, 828, 829, 830, 831, 832, 833, 834, 835, 836] (by decide +kernel) (by decide +kernel)
set_option maxRecDepth 20000 in
theorem gL_law_X6_placeByName : GoodIn wsL_law (wsV RL 47 RX6 yX6_placeByName wsX6_placeByName) := goodIn_app (goodIn_of _ (by decide +kernel)) ggL_law_X6_placeByName
set_option maxRecDepth 20000 in
theorem ggL_law_X5_abbe : GoodIn wsL_law wsX5_abbe := goodIn_r _ [288, 20, 212, 214, 215, 216, 19, 217, 186, 289, 290, 291, 292, 293, 294, 295, 296, 297, 44, 298, 299, 300, 301, 302, 43, 45, 303, 2, 304, 305, 306, 307, 308, 814, 815, 816, 817, 818, 839, 840, 841, 842, 843] (by decide +kernel) (by decide +kernel)
set_option maxRecDepth 20000 in
theorem gL_law_X5_abbe : GoodIn wsL_law (wsV RL 48 RX5 yX5_abbe wsX5_abbe) := goodIn_app (goodIn_of _ (by decide +kernel)) ggL_law_X5_abbe
set_option maxRecDepth 20000 in
theorem ggL_law_X6_abbe : GoodIn wsL_law wsX6_abbe := goodIn_r _ [312, 236, 239, 240, 241, 5, 242, 196, 95, 96, 97, 313, 314, 315, 316, 317, 318, 319, 320, 321, 69, 322, 323, 324, 325, 326, 819, 820, 821, 822, 823, 824, 825, 826, 827, 828, 829, 830, 831, 832, 833, 834, 835, 836] (by decide +kernel) (by decide +kernel)
set_option maxRecDepth 20000 in
theorem gL_law_X6_abbe : GoodIn wsL_law (wsV RL 51 RX6 yX6_abbe wsX6_abbe) := goodIn_app (goodIn_of _ (by decide +kernel)) ggL_law_X6_abbe
set_option maxRecDepth 20000 in
theorem ggL_law_X5_partial : GoodIn wsL_law wsX5_partial := goodIn_r _ [330, 20, 212, 331, 214, 215, 216, 19, 217, 186, 332, 333, 334, 335, 43, 44, 336, 300, 301, 302, 45, 337, 303, 2, 304, 305, 306, 307, 308, 814, 815, 816, 817, 818, 839, 840, 841, 842, 843] (by decide +kernel) (by decide +kernel)
set_option maxRecDepth 20000 in
theorem gL_law_X5_partial : GoodIn wsL_law (wsV RL 52 RX5 yX5_partial wsX5_partial) := goodIn_app (goodIn_of _ (by decide +kernel)) ggL_law_X5_partial
set_option maxRecDepth 20000 in
theorem ggL_law_X6_partial : GoodIn wsL_law wsX6_partial := goodIn_r _ [341, 236, 239, 240, 241, 5, 242, 196, 95, 96, 97, 342, 343, 344, 345, 346, 347, 348, 349, 350, 69, 323, 324, 325, 326, 819, 820, 821, 822, 823, 824, 825, 826, 827, 828, 829, 830, 831, 832, 833, 834, 835, 836] (by decide +kernel) (by decide +kernel)
set_option maxRecDepth 20000 in
theorem gL_law_X6_partial : GoodIn wsL_law (wsV RL 55 RX6 yX6_partial wsX6_partial) := goodIn_app (goodIn_of _ (by decide +kernel)) ggL_law_X6_partial
set_option maxRecDepth 20000 in
theorem ggL_law_X5_glassWithAbbe : GoodIn wsL_law wsX5_glassWithAbbe := goodIn_r _ [354, 20, 355, 356, 357, 358, 19, 359, 186, 360, 290, 291, 292, 293, 294, 295, 296, 297, 44, 298, 299, 300, 301, 302, 43, 45, 303, 2, 304, 305, 306, 307, 308, 814, 815, 816, 817, 818, 839, 840, 841, 842, 843] (by decide +kernel) (by decide +kernel)
set_option maxRecDepth 20000 in
theorem gL_law_X5_glassWithAbbe : GoodIn wsL_law (wsV RL 56 RX5 yX5_glassWithAbbe wsX5_glassWithAbbe) := goodIn_app (goodIn_of _ (by decide +kernel)) ggL_law_X5_glassWithAbbe
set_option maxRecDepth 20000 in
theorem ggL_law_X6_glassWithAbbe : GoodIn wsL_law wsX6_glassWithAbbe := goodIn_r _ [364, 196, 365, 313, 314, 315, 5, 316, 317, 318, 319, 320, 321, 69, 322, 323, 324, 325, 326, 819, 820, 821, 822, 823, 824, 825, 826, 827, 828, 829, 830, 831, 832, 833, 834, 835, 836] (by decide +kernel) (by decide +kernel)
set_option maxRecDepth 20000 in
theorem gL_law_X6_glassWithAbbe : GoodIn wsL_law (wsV RL 59 RX6 yX6_glassWithAbbe wsX6_glassWithAbbe) := goodIn_app (goodIn_of _ (by decide +kernel)) ggL_law_X6_glassWithAbbe
set_option maxRecDepth 20000 in
theorem ggL_law_X5_doubletPower : GoodIn wsL_law wsX5_doubletPower := goodIn_r _ [369, 20, 212, 79, 355, 370, 214, 215, 216, 19, 217, 186, 371, 372, 2, 373, 374, 375, 376, 377, 294, 295, 296, 297, 44, 298, 299, 300, 301, 302, 43, 45, 378, 336, 337, 303, 304, 305, 306, 307, 308, 814, 815, 816, 817, 818, 839, 840, 841, 842, 843] (by decide +kernel) (by decide +kernel)
set_option maxRecDepth 20000 in
theorem gL_law_X5_doubletPower : GoodIn wsL_law (wsV RL 60 RX5 yX5_doubletPower wsX5_doubletPower) := goodIn_app (goodIn_of _ (by decide +kernel)) ggL_law_X5_doubletPower
set_option maxRecDepth 20000 in
theorem ggL_law_X6_doubletPower : GoodIn wsL_law wsX6_doubletPower := goodIn_r _ [382, 236, 383, 384, 92, 365, 317, 239, 240, 241, 5, 242, 196, 95, 96, 97, 318, 319, 320, 321, 69, 322, 323, 324, 325, 326, 385, 386, 387, 388, 389, 390, 391, 819, 820, 821, 822, 823, 824, 825, 826, 827, 828, 829, 830, 831, 832, 833, 834, 835, 836] (by decide +kernel) (by decide +kernel)
set_option maxRecDepth 20000 in
theorem gL_law_X6_doubletPower : GoodIn wsL_law (wsV RL 64 RX6 yX6_doubletPower wsX6_doubletPower) := goodIn_app (goodIn_of _ (by decide +kernel)) ggL_law_X6_doubletPower
set_option maxRecDepth 20000 in
theorem ggL_law_X5_secondarySpectrum : GoodIn wsL_law wsX5_secondarySpectrum := goodIn_r _ [395, 20, 212, 79, 355, 396, 214, 215, 216, 19, 217, 186, 371, 372, 2, 373, 374, 375, 376, 377, 294, 295, 296, 297, 44, 298, 299, 300, 301, 302, 43, 45, 397, 398, 399, 400, 401, 333, 334, 335, 337, 303, 304, 305, 306, 307, 308, 814, 815, 816, 817, 818, 839, 840, 841, 842, 843] (by decide +kernel) (by decide +kernel)
set_option maxRecDepth 20000 in
theorem gL_law_X5_secondarySpectrum : GoodIn wsL_law (wsV RL 65 RX5 yX5_secondarySpectrum wsX5_secondarySpectrum) := goodIn_app (goodIn_of _ (by decide +kernel)) ggL_law_X5_secondarySpectrum
set_option maxRecDepth 20000 in
theorem ggL_law_X6_secondarySpectrum : GoodIn wsL_law wsX6_secondarySpectrum := goodIn_r _ [405, 236, 383, 384, 92, 365, 406, 239, 240, 241, 5, 242, 196, 95, 96, 97, 385, 386, 387, 388, 318, 319, 320, 321, 69, 322, 323, 324, 325, 326, 407, 408, 409, 410, 347, 348, 349, 350, 389, 390, 391, 819, 820, 821, 822, 823, 824, 825, 826, 827, 828, 829, 830, 831, 832, 833, 834, 835, 836] (by decide +kernel) (by decide +kernel)
set_option maxRecDepth 20000 in
theorem gL_law_X6_secondarySpectrum : GoodIn wsL_law (wsV RL 69 RX6 yX6_secondarySpectrum wsX6_secondarySpectrum) := goodIn_app (goodIn_of _ (by decide +kernel)) ggL_law_X6_secondarySpectrum
set_option maxRecDepth 20000 in
theorem ggL_law_X5_doubletAt : GoodIn wsL_law wsX5_doubletAt := goodIn_r _ [414, 24, 20, 355, 415, 416, 417, 23, 418, 419, 420, 375, 376, 19, 377, 294, 295, 296, 297, 44, 298, 299, 300, 301, 302, 43, 45, 421, 422, 423, 424, 49, 50, 51, 425, 426, 124, 427, 52, 428, 398, 399, 400, 401, 333, 334, 335, 429, 430, 431, 432, 433, 434, 53, 435, 436, 437, 438, 439, 440, 441, 442, 443, 444, 445, 446, 447, 448, 449, 450, 814, 815, 816, 817, 818, 844, 845, 846, 847, 848, 849, 839, 840, 841, 842, 843] (by decide +kernel) (by decide +kernel)
set_option maxRecDepth 20000 in
theorem gL_law_X5_doubletAt : GoodIn wsL_law (wsV RL 70 RX5 yX5_doubletAt wsX5_doubletAt) := goodIn_app (goodIn_of _ (by decide +kernel)) ggL_law_X5_doubletAt
set_option maxRecDepth 20000 in
theorem ggL_law_X6_doubletAt : GoodIn wsL_law wsX6_doubletAt := goodIn_r _ [454, 455, 456, 457, 5, 458, 365, 459, 460, 461, 462, 463, 464, 465, 196, 466, 467, 468, 469, 385, 386, 387, 388, 318, 319, 320, 321, 69, 322, 323, 324, 325, 326, 95, 96, 97, 470, 471, 472, 473, 474, 475, 476, 477, 407, 408, 409, 410, 347, 348, 349, 350, 478, 479, 480, 481, 482, 483, 484, 485, 486, 487, 819, 820, 821, 822, 823, 824, 825, 826, 827, 828, 829, 830, 831, 832, 833, 834, 835, 836] (by decide +kernel) (by decide +kernel)
set_option maxRecDepth 20000 in
theorem gL_law_X6_doubletAt : GoodIn wsL_law (wsV RL 74 RX6 yX6_doubletAt wsX6_doubletAt) := goodIn_app (goodIn_of _ (by decide +kernel)) ggL_law_X6_doubletAt
