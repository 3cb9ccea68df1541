set_option maxRecDepth 20000 in
theorem ggL_law_X8_harm : GoodIn wsL_law wsX8_harm := goodIn_r _ [693, 573, 694, 399, 432, 433, 434, 5, 435, 143, 144, 145, 695, 696, 697, 698, 115, 400, 401, 402, 574, 575, 576, 577, 112, 468, 469, 470, 471, 113, 110, 109, 108, 111, 856, 857, 858, 859, 860, 861, 862, 863, 864, 865, 866, 867, 868, 869, 870, 871, 872, 873, 874, 875, 876, 877, 878, 879, 880, 881, 882, 883, 884, 885, 886, 887, 888] (by decide +kernel) (by decide +kernel)
set_option maxRecDepth 20000 in
theorem gL_law_X8_harm : GoodIn wsL_law (wsV RL 87 RX8 yX8_harm wsX8_harm) := goodIn_app (goodIn_of _ (by decide +kernel)) ggL_law_X8_harm
set_option maxRecDepth 20000 in
theorem ggL_law_X7_saw : GoodIn wsL_law wsX7_saw := goodIn_r _ [702, 28, 158, 553, 554, 2, 555, 416, 417, 418, 419, 37, 420, 703, 704, 705, 27, 706, 707, 67, 68, 69, 846, 847, 848, 849, 850, 851, 852, 853, 854, 855, 905, 906, 907, 908, 912, 913, 914, 915, 916, 917, 918, 919, 920] (by decide +kernel) (by decide +kernel)
set_option maxRecDepth 20000 in
theorem gL_law_X7_saw : GoodIn wsL_law (wsV RL 88 RX7 yX7_saw wsX7_saw) := goodIn_app (goodIn_of _ (by decide +kernel)) ggL_law_X7_saw
set_option maxRecDepth 20000 in
theorem ggL_law_X8_saw : GoodIn wsL_law wsX8_saw := goodIn_r _ [711, 635, 712, 405, 117, 118, 119, 143, 144, 5, 145, 432, 433, 434, 435, 399, 856, 857, 858, 859, 860, 861, 862, 863, 864, 865, 866, 867, 868, 869, 870, 871, 872, 873, 874, 875, 876, 877, 878, 879, 880, 881, 882, 883, 884, 885, 886, 887, 888] (by decide +kernel) (by decide +kernel)
set_option maxRecDepth 20000 in
theorem gL_law_X8_saw : GoodIn wsL_law (wsV RL 91 RX8 yX8_saw wsX8_saw) := goodIn_app (goodIn_of _ (by decide +kernel)) ggL_law_X8_saw
set_option maxRecDepth 20000 in
theorem ggL_law_X7_forget : GoodIn wsL_law wsX7_forget := goodIn_r _ [716, 28, 158, 846, 847, 848, 849, 850, 851, 852, 853, 854, 855, 905, 906, 907, 908] (by decide +kernel) (by decide +kernel)
set_option maxRecDepth 20000 in
theorem gL_law_X7_forget : GoodIn wsL_law (wsV RL 92 RX7 yX7_forget wsX7_forget) := goodIn_app (goodIn_of _ (by decide +kernel)) ggL_law_X7_forget
set_option maxRecDepth 20000 in
theorem ggL_law_X8_forget : GoodIn wsL_law wsX8_forget := goodIn_r _ [720, 405, 856, 857, 858, 859, 860, 861, 862, 863, 864, 865, 866, 867, 868, 869, 870, 871, 872, 873, 874, 875, 876, 877, 878, 879, 880, 881, 882, 883, 884, 885, 886, 887, 888] (by decide +kernel) (by decide +kernel)
set_option maxRecDepth 20000 in
theorem gL_law_X8_forget : GoodIn wsL_law (wsV RL 95 RX8 yX8_forget wsX8_forget) := goodIn_app (goodIn_of _ (by decide +kernel)) ggL_law_X8_forget
set_option maxRecDepth 20000 in
theorem ggL_law_X7_holes : GoodIn wsL_law wsX7_holes := goodIn_r _ [724, 32, 640, 37, 416, 417, 418, 2, 419, 420, 641, 642, 643, 36, 644, 93, 98, 82, 83, 84, 85, 87, 88, 86, 725, 726, 727, 728, 28, 729, 730, 731, 31, 732, 74, 76, 733, 324, 325, 23, 326, 327, 328, 329, 330, 331, 61, 332, 734, 735, 736, 27, 737, 707, 67, 738, 305, 306, 307, 739, 740, 741, 742, 743, 68, 69, 568, 451, 452, 453, 454, 62, 455, 456, 457, 426, 427, 458, 459, 460, 461, 462, 463, 744, 745, 746, 747, 411, 846, 847, 848, 849, 850, 851, 852, 853, 854, 855, 909, 910, 911, 912, 913, 914, 915, 916, 917, 918, 919, 920, 897, 898, 899, 900, 901, 902, 903, 904, 905, 906, 907, 908] (by decide +kernel) (by decide +kernel)
set_option maxRecDepth 20000 in
theorem gL_law_X7_holes : GoodIn wsL_law (wsV RL 96 RX7 yX7_holes wsX7_holes) := goodIn_app (goodIn_of _ (by decide +kernel)) ggL_law_X7_holes
set_option maxRecDepth 20000 in
theorem ggL_law_X8_holes : GoodIn wsL_law wsX8_holes := goodIn_r _ [751, 399, 432, 433, 434, 5, 435, 143, 144, 145, 752, 753, 754, 755, 108, 756, 757, 758, 759, 115, 107, 405, 117, 118, 119, 468, 469, 470, 471, 113, 110, 109, 111, 856, 857, 858, 859, 860, 861, 862, 863, 864, 865, 866, 867, 868, 869, 870, 871, 872, 873, 874, 875, 876, 877, 878, 879, 880, 881, 882, 883, 884, 885, 886, 887, 888] (by decide +kernel) (by decide +kernel)
set_option maxRecDepth 20000 in
theorem gL_law_X8_holes : GoodIn wsL_law (wsV RL 99 RX8 yX8_holes wsX8_holes) := goodIn_app (goodIn_of _ (by decide +kernel)) ggL_law_X8_holes
