set_option maxRecDepth 20000 in
theorem ggL_law_X6_undo : GoodIn wsL_law wsX6_undo := goodIn_r _ [552, 333, 122, 331, 120, 857, 858, 859, 860, 861, 862, 863, 864, 865, 866, 867, 868, 869, 870, 871, 872, 873, 874, 875, 876, 877, 878, 879, 880, 881, 882, 883, 884, 885, 886, 887, 888, 889, 890, 891, 892, 893, 894, 895] (by decide +kernel) (by decide +kernel)
set_option maxRecDepth 20000 in
theorem gL_law_X6_undo : GoodIn wsL_law (wsV RL 58 RX6 yX6_undo wsX6_undo) := goodIn_app (goodIn_of _ (by decide +kernel)) ggL_law_X6_undo
set_option maxRecDepth 20000 in
theorem ggL_law_X5_lot : GoodIn wsL_law wsX5_lot := goodIn_r _ [556, 28, 557, 846, 847, 848, 849, 850, 851, 852, 853, 854, 855, 856, 919, 920, 921, 922, 923, 924, 925] (by decide +kernel) (by decide +kernel)
set_option maxRecDepth 20000 in
theorem gL_law_X5_lot : GoodIn wsL_law (wsV RL 59 RX5 yX5_lot wsX5_lot) := goodIn_app (goodIn_of _ (by decide +kernel)) ggL_law_X5_lot
set_option maxRecDepth 20000 in
theorem ggL_law_X6_lot : GoodIn wsL_law wsX6_lot := goodIn_r _ [561, 121, 857, 858, 859, 860, 861, 862, 863, 864, 865, 866, 867, 868, 869, 870, 871, 872, 873, 874, 875, 876, 877, 878, 879, 880, 881, 882, 883, 884, 885, 886, 887, 888, 889, 890, 891, 892, 893, 894, 895] (by decide +kernel) (by decide +kernel)
set_option maxRecDepth 20000 in
theorem gL_law_X6_lot : GoodIn wsL_law (wsV RL 62 RX6 yX6_lot wsX6_lot) := goodIn_app (goodIn_of _ (by decide +kernel)) ggL_law_X6_lot
set_option maxRecDepth 20000 in
theorem ggL_law_X5_done : GoodIn wsL_law wsX5_done := goodIn_r _ [565, 35, 23, 28, 413, 414, 468, 566, 567, 568, 34, 569, 87, 92, 570, 571, 572, 573, 88, 90, 91, 89, 574, 575, 576, 577, 578, 434, 435, 22, 436, 62, 437, 418, 419, 579, 580, 581, 582, 583, 584, 585, 586, 587, 588, 589, 470, 471, 472, 55, 56, 433, 590, 591, 592, 593, 594, 595, 596, 597, 421, 422, 423, 68, 69, 598, 599, 600, 601, 602, 603, 604, 605, 606, 846, 847, 848, 849, 850, 851, 852, 853, 854, 855, 856, 919, 920, 921, 922, 923, 924, 925, 904, 905, 906, 907, 908, 909, 910, 911, 912, 913, 914, 915, 916, 917, 918, 926, 927, 928, 929, 930, 931] (by decide +kernel) (by decide +kernel)
set_option maxRecDepth 20000 in
theorem gL_law_X5_done : GoodIn wsL_law (wsV RL 63 RX5 yX5_done wsX5_done) := goodIn_app (goodIn_of _ (by decide +kernel)) ggL_law_X5_done
set_option maxRecDepth 20000 in
theorem ggL_law_X6_done : GoodIn wsL_law wsX6_done := goodIn_r _ [610, 331, 118, 133, 611, 612, 613, 5, 614, 615, 131, 130, 616, 617, 618, 619, 327, 485, 486, 487, 488, 460, 461, 462, 463, 442, 443, 444, 489, 490, 491, 492, 116, 453, 454, 455, 456, 457, 458, 459, 117, 445, 446, 447, 448, 114, 620, 621, 622, 623, 132, 449, 450, 451, 452, 115, 857, 858, 859, 860, 861, 862, 863, 864, 865, 866, 867, 868, 869, 870, 871, 872, 873, 874, 875, 876, 877, 878, 879, 880, 881, 882, 883, 884, 885, 886, 887, 888, 889, 890, 891, 892, 893, 894, 895] (by decide +kernel) (by decide +kernel)
set_option maxRecDepth 20000 in
theorem gL_law_X6_done : GoodIn wsL_law (wsV RL 66 RX6 yX6_done wsX6_done) := goodIn_app (goodIn_of _ (by decide +kernel)) ggL_law_X6_done
set_option maxRecDepth 20000 in
theorem ggL_law_X5_rent : GoodIn wsL_law wsX5_rent := goodIn_r _ [627, 35, 23, 28, 413, 414, 468, 566, 567, 568, 34, 569, 87, 92, 570, 571, 572, 573, 88, 90, 91, 89, 574, 575, 576, 577, 578, 434, 435, 22, 436, 62, 437, 418, 419, 579, 580, 581, 582, 583, 584, 585, 586, 587, 588, 589, 470, 471, 472, 55, 56, 433, 590, 591, 592, 628, 629, 630, 631, 632, 425, 426, 427, 61, 52, 428, 421, 422, 423, 68, 69, 633, 634, 635, 636, 424, 602, 603, 604, 605, 606, 599, 600, 601, 846, 847, 848, 849, 850, 851, 852, 853, 854, 855, 856, 919, 920, 921, 922, 923, 924, 925, 904, 905, 906, 907, 908, 909, 910, 911, 912, 913, 914, 915, 916, 917, 918, 926, 927, 928, 929, 930, 931] (by decide +kernel) (by decide +kernel)
set_option maxRecDepth 20000 in
theorem gL_law_X5_rent : GoodIn wsL_law (wsV RL 67 RX5 yX5_rent wsX5_rent) := goodIn_app (goodIn_of _ (by decide +kernel)) ggL_law_X5_rent
set_option maxRecDepth 20000 in
theorem ggL_law_X6_rent : GoodIn wsL_law wsX6_rent := goodIn_r _ [640, 641, 331, 118, 615, 131, 130, 133, 147, 148, 5, 149, 616, 617, 618, 619, 327, 485, 486, 487, 488, 460, 461, 462, 463, 442, 443, 444, 489, 490, 491, 492, 116, 453, 454, 455, 456, 457, 458, 459, 117, 449, 450, 451, 452, 115, 445, 446, 447, 448, 114, 620, 621, 622, 623, 132, 857, 858, 859, 860, 861, 862, 863, 864, 865, 866, 867, 868, 869, 870, 871, 872, 873, 874, 875, 876, 877, 878, 879, 880, 881, 882, 883, 884, 885, 886, 887, 888, 889, 890, 891, 892, 893, 894, 895] (by decide +kernel) (by decide +kernel)
set_option maxRecDepth 20000 in
theorem gL_law_X6_rent : GoodIn wsL_law (wsV RL 70 RX6 yX6_rent wsX6_rent) := goodIn_app (goodIn_of _ (by decide +kernel)) ggL_law_X6_rent
