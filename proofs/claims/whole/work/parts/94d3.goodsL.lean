set_option maxRecDepth 20000 in
theorem ggL_law_X5_rest : GoodIn wsL_law wsX5_rest := goodIn_r _ [500, 28, 415, 473, 474, 475, 27, 476, 81, 82, 77, 83, 78, 477, 478, 479, 480, 846, 847, 848, 849, 850, 851, 852, 853, 854, 855, 856, 919, 920, 921, 922, 923, 924, 925] (by decide +kernel) (by decide +kernel)
set_option maxRecDepth 20000 in
theorem gL_law_X5_rest : GoodIn wsL_law (wsV RL 43 RX5 yX5_rest wsX5_rest) := goodIn_app (goodIn_of _ (by decide +kernel)) ggL_law_X5_rest
set_option maxRecDepth 20000 in
theorem ggL_law_X6_rest : GoodIn wsL_law wsX6_rest := goodIn_r _ [504, 120, 493, 494, 495, 5, 496, 333, 122, 331, 857, 858, 859, 860, 861, 862, 863, 864, 865, 866, 867, 868, 869, 870, 871, 872, 873, 874, 875, 876, 877, 878, 879, 880, 881, 882, 883, 884, 885, 886, 887, 888, 889, 890, 891, 892, 893, 894, 895] (by decide +kernel) (by decide +kernel)
set_option maxRecDepth 20000 in
theorem gL_law_X6_rest : GoodIn wsL_law (wsV RL 46 RX6 yX6_rest wsX6_rest) := goodIn_app (goodIn_of _ (by decide +kernel)) ggL_law_X6_rest
set_option maxRecDepth 20000 in
theorem ggL_law_X5_night : GoodIn wsL_law wsX5_night := goodIn_r _ [508, 28, 23, 509, 416, 510, 511, 512, 27, 513, 80, 514, 515, 516, 517, 518, 79, 519, 168, 169, 170, 520, 521, 522, 523, 524, 525, 526, 846, 847, 848, 849, 850, 851, 852, 853, 854, 855, 856, 904, 905, 906, 907, 908, 909, 910, 911, 912, 913, 914, 915, 916, 917, 918, 919, 920, 921, 922, 923, 924, 925] (by decide +kernel) (by decide +kernel)
set_option maxRecDepth 20000 in
theorem gL_law_X5_night : GoodIn wsL_law (wsV RL 47 RX5 yX5_night wsX5_night) := goodIn_app (goodIn_of _ (by decide +kernel)) ggL_law_X5_night
set_option maxRecDepth 20000 in
theorem ggL_law_X6_night : GoodIn wsL_law wsX6_night := goodIn_r _ [530, 121, 531, 119, 332, 857, 858, 859, 860, 861, 862, 863, 864, 865, 866, 867, 868, 869, 870, 871, 872, 873, 874, 875, 876, 877, 878, 879, 880, 881, 882, 883, 884, 885, 886, 887, 888, 889, 890, 891, 892, 893, 894, 895] (by decide +kernel) (by decide +kernel)
set_option maxRecDepth 20000 in
theorem gL_law_X6_night : GoodIn wsL_law (wsV RL 50 RX6 yX6_night wsX6_night) := goodIn_app (goodIn_of _ (by decide +kernel)) ggL_law_X6_night
set_option maxRecDepth 20000 in
theorem ggL_law_X5_slide : GoodIn wsL_law wsX5_slide := goodIn_r _ [535, 23, 28, 413, 393, 416, 395, 305, 306, 22, 307, 61, 429, 430, 431, 432, 56, 62, 433, 434, 435, 436, 437, 418, 419, 473, 474, 475, 27, 476, 81, 82, 77, 83, 78, 477, 478, 479, 480, 396, 397, 398, 399, 846, 847, 848, 849, 850, 851, 852, 853, 854, 855, 856, 919, 920, 921, 922, 923, 924, 925, 904, 905, 906, 907, 908, 909, 910, 911, 912, 913, 914, 915, 916, 917, 918] (by decide +kernel) (by decide +kernel)
set_option maxRecDepth 20000 in
theorem gL_law_X5_slide : GoodIn wsL_law (wsV RL 51 RX5 yX5_slide wsX5_slide) := goodIn_app (goodIn_of _ (by decide +kernel)) ggL_law_X5_slide
set_option maxRecDepth 20000 in
theorem ggL_law_X6_slide : GoodIn wsL_law wsX6_slide := goodIn_r _ [539, 116, 332, 331, 405, 406, 407, 5, 408, 327, 147, 148, 149, 456, 457, 458, 459, 117, 460, 461, 462, 463, 442, 443, 444, 453, 454, 455, 493, 494, 495, 496, 333, 122, 120, 857, 858, 859, 860, 861, 862, 863, 864, 865, 866, 867, 868, 869, 870, 871, 872, 873, 874, 875, 876, 877, 878, 879, 880, 881, 882, 883, 884, 885, 886, 887, 888, 889, 890, 891, 892, 893, 894, 895] (by decide +kernel) (by decide +kernel)
set_option maxRecDepth 20000 in
theorem gL_law_X6_slide : GoodIn wsL_law (wsV RL 54 RX6 yX6_slide wsX6_slide) := goodIn_app (goodIn_of _ (by decide +kernel)) ggL_law_X6_slide
set_option maxRecDepth 20000 in
theorem ggL_law_X5_undo : GoodIn wsL_law wsX5_undo := goodIn_r _ [543, 28, 544, 545, 546, 547, 27, 548, 81, 82, 77, 83, 78, 846, 847, 848, 849, 850, 851, 852, 853, 854, 855, 856, 919, 920, 921, 922, 923, 924, 925] (by decide +kernel) (by decide +kernel)
set_option maxRecDepth 20000 in
theorem gL_law_X5_undo : GoodIn wsL_law (wsV RL 55 RX5 yX5_undo wsX5_undo) := goodIn_app (goodIn_of _ (by decide +kernel)) ggL_law_X5_undo
