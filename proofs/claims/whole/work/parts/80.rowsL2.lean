set_option maxRecDepth 20000 in
theorem ggL_law_X8_walls : GoodIn wsL_law wsX8_walls := goodIn_r _ [336, 337, 338, 339, 106, 340, 341, 141, 342, 343, 344, 5, 345, 104, 346, 347, 348, 349, 350, 143, 144, 145, 351, 352, 353, 354, 355, 356, 357, 358, 359, 360, 361, 362, 363, 364, 365, 366, 367, 368, 369, 370, 371, 372, 373, 374, 375, 376, 377, 378, 105, 379, 380, 381, 382, 383, 384, 385, 386, 387, 388, 389, 390, 391, 392, 393, 394, 395, 396, 397, 398, 399, 121, 107, 108, 109, 110, 112, 111, 400, 401, 402, 403, 404, 405, 120, 856, 857, 858, 859, 860, 861, 862, 863, 864, 865, 866, 867, 868, 869, 870, 871, 872, 873, 874, 875, 876, 877, 878, 879, 880, 881, 882, 883, 884, 885, 886, 887, 888] (by decide +kernel) (by decide +kernel)
set_option maxRecDepth 20000 in
theorem gL_law_X8_walls : GoodIn wsL_law (wsV RL 28 RX8 yX8_walls wsX8_walls) := goodIn_app (goodIn_of _ (by decide +kernel)) ggL_law_X8_walls
set_option maxRecDepth 20000 in
theorem ggL_law_X7_wall : GoodIn wsL_law wsX7_wall := goodIn_r _ [409, 24, 410, 37, 411, 412, 413, 414, 415, 416, 417, 418, 2, 419, 420, 421, 422, 423, 36, 424, 87, 425, 426, 427, 846, 847, 848, 849, 850, 851, 852, 853, 854, 855, 897, 898, 899, 900, 901, 902, 903, 904, 912, 913, 914, 915, 916, 917, 918, 919, 920] (by decide +kernel) (by decide +kernel)
set_option maxRecDepth 20000 in
theorem gL_law_X7_wall : GoodIn wsL_law (wsV RL 29 RX7 yX7_wall wsX7_wall) := goodIn_app (goodIn_of _ (by decide +kernel)) ggL_law_X7_wall
set_option maxRecDepth 20000 in
theorem ggL_law_X8_wall : GoodIn wsL_law wsX8_wall := goodIn_r _ [431, 112, 108, 109, 110, 111, 401, 402, 432, 433, 434, 5, 435, 399, 143, 144, 145, 387, 388, 389, 390, 856, 857, 858, 859, 860, 861, 862, 863, 864, 865, 866, 867, 868, 869, 870, 871, 872, 873, 874, 875, 876, 877, 878, 879, 880, 881, 882, 883, 884, 885, 886, 887, 888] (by decide +kernel) (by decide +kernel)
set_option maxRecDepth 20000 in
theorem gL_law_X8_wall : GoodIn wsL_law (wsV RL 33 RX8 yX8_wall wsX8_wall) := goodIn_app (goodIn_of _ (by decide +kernel)) ggL_law_X8_wall
set_option maxRecDepth 20000 in
theorem ggL_law_X7_sees : GoodIn wsL_law wsX7_sees := goodIn_r _ [439, 37, 440, 416, 417, 418, 2, 419, 420, 846, 847, 848, 849, 850, 851, 852, 853, 854, 855, 912, 913, 914, 915, 916, 917, 918, 919, 920] (by decide +kernel) (by decide +kernel)
set_option maxRecDepth 20000 in
theorem gL_law_X7_sees : GoodIn wsL_law (wsV RL 34 RX7 yX7_sees wsX7_sees) := goodIn_app (goodIn_of _ (by decide +kernel)) ggL_law_X7_sees
set_option maxRecDepth 20000 in
theorem ggL_law_X8_sees : GoodIn wsL_law wsX8_sees := goodIn_r _ [444, 111, 432, 433, 434, 5, 435, 399, 143, 144, 145, 856, 857, 858, 859, 860, 861, 862, 863, 864, 865, 866, 867, 868, 869, 870, 871, 872, 873, 874, 875, 876, 877, 878, 879, 880, 881, 882, 883, 884, 885, 886, 887, 888] (by decide +kernel) (by decide +kernel)
set_option maxRecDepth 20000 in
theorem gL_law_X8_sees : GoodIn wsL_law (wsV RL 37 RX8 yX8_sees wsX8_sees) := goodIn_app (goodIn_of _ (by decide +kernel)) ggL_law_X8_sees
set_option maxRecDepth 20000 in
theorem ggL_law_X7_hour : GoodIn wsL_law wsX7_hour := goodIn_r _ [448, 24, 449, 37, 450, 451, 452, 23, 453, 327, 454, 62, 61, 455, 456, 457, 330, 426, 2, 427, 458, 459, 460, 461, 328, 462, 463, 329, 846, 847, 848, 849, 850, 851, 852, 853, 854, 855, 897, 898, 899, 900, 901, 902, 903, 904, 912, 913, 914, 915, 916, 917, 918, 919, 920] (by decide +kernel) (by decide +kernel)
set_option maxRecDepth 20000 in
theorem gL_law_X7_hour : GoodIn wsL_law (wsV RL 38 RX7 yX7_hour wsX7_hour) := goodIn_app (goodIn_of _ (by decide +kernel)) ggL_law_X7_hour
set_option maxRecDepth 20000 in
theorem ggL_law_X8_hour : GoodIn wsL_law wsX8_hour := goodIn_r _ [467, 400, 112, 401, 402, 403, 468, 469, 470, 5, 471, 399, 113, 110, 109, 108, 111, 856, 857, 858, 859, 860, 861, 862, 863, 864, 865, 866, 867, 868, 869, 870, 871, 872, 873, 874, 875, 876, 877, 878, 879, 880, 881, 882, 883, 884, 885, 886, 887, 888] (by decide +kernel) (by decide +kernel)
set_option maxRecDepth 20000 in
theorem gL_law_X8_hour : GoodIn wsL_law (wsV RL 41 RX8 yX8_hour wsX8_hour) := goodIn_app (goodIn_of _ (by decide +kernel)) ggL_law_X8_hour
