set_option maxRecDepth 20000 in
theorem ggL_law_X6_river : GoodIn wsL_law wsX6_river := goodIn_r _ [324, 325, 326, 327, 328, 329, 129, 330, 127, 114, 115, 116, 117, 128, 118, 120, 119, 331, 332, 333, 334, 126, 145, 335, 336, 337, 5, 338, 339, 340, 341, 342, 343, 344, 345, 346, 347, 348, 349, 350, 351, 113, 352, 353, 354, 355, 356, 357, 358, 359, 360, 361, 362, 363, 364, 365, 366, 367, 368, 369, 370, 371, 147, 148, 149, 372, 373, 374, 375, 376, 377, 378, 379, 380, 381, 382, 383, 384, 385, 386, 857, 858, 859, 860, 861, 862, 863, 864, 865, 866, 867, 868, 869, 870, 871, 872, 873, 874, 875, 876, 877, 878, 879, 880, 881, 882, 883, 884, 885, 886, 887, 888, 889, 890, 891, 892, 893, 894, 895] (by decide +kernel) (by decide +kernel)
set_option maxRecDepth 20000 in
theorem gL_law_X6_river : GoodIn wsL_law (wsV RL 28 RX6 yX6_river wsX6_river) := goodIn_app (goodIn_of _ (by decide +kernel)) ggL_law_X6_river
set_option maxRecDepth 20000 in
theorem ggL_law_X5_thing : GoodIn wsL_law wsX5_thing := goodIn_r _ [390, 23, 28, 391, 392, 393, 394, 395, 305, 306, 22, 307, 61, 396, 397, 398, 27, 399, 77, 846, 847, 848, 849, 850, 851, 852, 853, 854, 855, 856, 904, 905, 906, 907, 908, 909, 910, 911, 912, 913, 914, 915, 916, 917, 918, 919, 920, 921, 922, 923, 924, 925] (by decide +kernel) (by decide +kernel)
set_option maxRecDepth 20000 in
theorem gL_law_X5_thing : GoodIn wsL_law (wsV RL 29 RX5 yX5_thing wsX5_thing) := goodIn_app (goodIn_of _ (by decide +kernel)) ggL_law_X5_thing
set_option maxRecDepth 20000 in
theorem ggL_law_X6_thing : GoodIn wsL_law wsX6_thing := goodIn_r _ [403, 404, 331, 114, 115, 116, 117, 405, 406, 407, 5, 408, 327, 147, 148, 149, 857, 858, 859, 860, 861, 862, 863, 864, 865, 866, 867, 868, 869, 870, 871, 872, 873, 874, 875, 876, 877, 878, 879, 880, 881, 882, 883, 884, 885, 886, 887, 888, 889, 890, 891, 892, 893, 894, 895] (by decide +kernel) (by decide +kernel)
set_option maxRecDepth 20000 in
theorem gL_law_X6_thing : GoodIn wsL_law (wsV RL 33 RX6 yX6_thing wsX6_thing) := goodIn_app (goodIn_of _ (by decide +kernel)) ggL_law_X6_thing
set_option maxRecDepth 20000 in
theorem ggL_law_X5_now : GoodIn wsL_law wsX5_now := goodIn_r _ [412, 28, 413, 23, 414, 415, 416, 417, 418, 22, 419, 420, 421, 422, 423, 68, 69, 424, 425, 426, 427, 61, 52, 428, 429, 430, 431, 432, 56, 62, 433, 434, 435, 436, 437, 846, 847, 848, 849, 850, 851, 852, 853, 854, 855, 856, 919, 920, 921, 922, 923, 924, 925, 904, 905, 906, 907, 908, 909, 910, 911, 912, 913, 914, 915, 916, 917, 918] (by decide +kernel) (by decide +kernel)
set_option maxRecDepth 20000 in
theorem gL_law_X5_now : GoodIn wsL_law (wsV RL 34 RX5 yX5_now wsX5_now) := goodIn_app (goodIn_of _ (by decide +kernel)) ggL_law_X5_now
set_option maxRecDepth 20000 in
theorem ggL_law_X6_now : GoodIn wsL_law wsX6_now := goodIn_r _ [441, 331, 118, 120, 332, 442, 443, 5, 444, 445, 446, 447, 448, 327, 114, 449, 450, 451, 452, 115, 453, 454, 455, 456, 457, 458, 459, 117, 460, 461, 462, 463, 857, 858, 859, 860, 861, 862, 863, 864, 865, 866, 867, 868, 869, 870, 871, 872, 873, 874, 875, 876, 877, 878, 879, 880, 881, 882, 883, 884, 885, 886, 887, 888, 889, 890, 891, 892, 893, 894, 895] (by decide +kernel) (by decide +kernel)
set_option maxRecDepth 20000 in
theorem gL_law_X6_now : GoodIn wsL_law (wsV RL 38 RX6 yX6_now wsX6_now) := goodIn_app (goodIn_of _ (by decide +kernel)) ggL_law_X6_now
set_option maxRecDepth 20000 in
theorem ggL_law_X5_cross : GoodIn wsL_law wsX5_cross := goodIn_r _ [467, 23, 468, 28, 413, 414, 415, 469, 470, 471, 22, 472, 55, 56, 433, 434, 435, 436, 62, 437, 418, 419, 473, 474, 475, 27, 476, 81, 82, 77, 83, 78, 477, 478, 479, 480, 846, 847, 848, 849, 850, 851, 852, 853, 854, 855, 856, 904, 905, 906, 907, 908, 909, 910, 911, 912, 913, 914, 915, 916, 917, 918, 919, 920, 921, 922, 923, 924, 925] (by decide +kernel) (by decide +kernel)
set_option maxRecDepth 20000 in
theorem gL_law_X5_cross : GoodIn wsL_law (wsV RL 39 RX5 yX5_cross wsX5_cross) := goodIn_app (goodIn_of _ (by decide +kernel)) ggL_law_X5_cross
set_option maxRecDepth 20000 in
theorem ggL_law_X6_cross : GoodIn wsL_law wsX6_cross := goodIn_r _ [484, 327, 331, 118, 120, 147, 148, 5, 149, 485, 486, 487, 488, 460, 461, 462, 463, 442, 443, 444, 489, 490, 491, 492, 116, 453, 454, 455, 456, 457, 458, 459, 117, 493, 494, 495, 496, 333, 122, 857, 858, 859, 860, 861, 862, 863, 864, 865, 866, 867, 868, 869, 870, 871, 872, 873, 874, 875, 876, 877, 878, 879, 880, 881, 882, 883, 884, 885, 886, 887, 888, 889, 890, 891, 892, 893, 894, 895] (by decide +kernel) (by decide +kernel)
set_option maxRecDepth 20000 in
theorem gL_law_X6_cross : GoodIn wsL_law (wsV RL 42 RX6 yX6_cross wsX6_cross) := goodIn_app (goodIn_of _ (by decide +kernel)) ggL_law_X6_cross
