set_option maxRecDepth 20000 in
theorem ggL_law_X5_least : GoodIn wsL_law wsX5_least := goodIn_r _ [645, 23, 468, 646, 647, 648, 2, 649, 35, 28, 413, 566, 567, 568, 34, 569, 87, 92, 570, 571, 572, 573, 88, 90, 91, 89, 574, 575, 576, 577, 578, 434, 435, 22, 436, 62, 437, 418, 419, 579, 580, 581, 582, 583, 584, 585, 586, 587, 588, 589, 470, 471, 472, 55, 56, 433, 590, 591, 592, 593, 594, 595, 596, 597, 421, 422, 423, 68, 69, 598, 599, 600, 601, 846, 847, 848, 849, 850, 851, 852, 853, 854, 855, 856, 904, 905, 906, 907, 908, 909, 910, 911, 912, 913, 914, 915, 916, 917, 918, 919, 920, 921, 922, 923, 924, 925, 926, 927, 928, 929, 930, 931] (by decide +kernel) (by decide +kernel)
set_option maxRecDepth 20000 in
theorem gL_law_X5_least : GoodIn wsL_law (wsV RL 71 RX5 yX5_least wsX5_least) := goodIn_app (goodIn_of _ (by decide +kernel)) ggL_law_X5_least
set_option maxRecDepth 20000 in
theorem ggL_law_X6_least : GoodIn wsL_law wsX6_least := goodIn_r _ [653, 331, 611, 612, 613, 5, 614, 615, 131, 130, 616, 617, 618, 619, 327, 485, 486, 487, 488, 460, 461, 462, 463, 442, 443, 444, 489, 490, 491, 492, 116, 453, 454, 455, 456, 457, 458, 459, 117, 445, 446, 447, 448, 114, 857, 858, 859, 860, 861, 862, 863, 864, 865, 866, 867, 868, 869, 870, 871, 872, 873, 874, 875, 876, 877, 878, 879, 880, 881, 882, 883, 884, 885, 886, 887, 888, 889, 890, 891, 892, 893, 894, 895] (by decide +kernel) (by decide +kernel)
set_option maxRecDepth 20000 in
theorem gL_law_X6_least : GoodIn wsL_law (wsV RL 74 RX6 yX6_least wsX6_least) := goodIn_app (goodIn_of _ (by decide +kernel)) ggL_law_X6_least
set_option maxRecDepth 20000 in
theorem ggL_law_X5_sooner : GoodIn wsL_law wsX5_sooner := goodIn_r _ [657, 23, 658, 414, 468, 395, 305, 306, 22, 307, 61, 646, 647, 648, 2, 649, 35, 28, 413, 566, 567, 568, 34, 569, 87, 92, 570, 571, 572, 573, 88, 90, 91, 89, 574, 575, 576, 577, 578, 434, 435, 436, 62, 437, 418, 419, 579, 580, 581, 582, 583, 584, 585, 586, 587, 588, 589, 470, 471, 472, 55, 56, 433, 590, 591, 592, 593, 594, 595, 596, 597, 421, 422, 423, 68, 69, 598, 599, 600, 601, 846, 847, 848, 849, 850, 851, 852, 853, 854, 855, 856, 904, 905, 906, 907, 908, 909, 910, 911, 912, 913, 914, 915, 916, 917, 918, 919, 920, 921, 922, 923, 924, 925, 926, 927, 928, 929, 930, 931] (by decide +kernel) (by decide +kernel)
set_option maxRecDepth 20000 in
theorem gL_law_X5_sooner : GoodIn wsL_law (wsV RL 75 RX5 yX5_sooner wsX5_sooner) := goodIn_app (goodIn_of _ (by decide +kernel)) ggL_law_X5_sooner
set_option maxRecDepth 20000 in
theorem ggL_law_X6_sooner : GoodIn wsL_law wsX6_sooner := goodIn_r _ [662, 663, 331, 118, 114, 117, 116, 327, 405, 406, 407, 5, 408, 147, 148, 149, 611, 612, 613, 614, 615, 131, 130, 616, 617, 618, 619, 485, 486, 487, 488, 460, 461, 462, 463, 442, 443, 444, 489, 490, 491, 492, 453, 454, 455, 456, 457, 458, 459, 445, 446, 447, 448, 857, 858, 859, 860, 861, 862, 863, 864, 865, 866, 867, 868, 869, 870, 871, 872, 873, 874, 875, 876, 877, 878, 879, 880, 881, 882, 883, 884, 885, 886, 887, 888, 889, 890, 891, 892, 893, 894, 895] (by decide +kernel) (by decide +kernel)
set_option maxRecDepth 20000 in
theorem gL_law_X6_sooner : GoodIn wsL_law (wsV RL 78 RX6 yX6_sooner wsX6_sooner) := goodIn_app (goodIn_of _ (by decide +kernel)) ggL_law_X6_sooner
set_option maxRecDepth 20000 in
theorem ggL_law_X5_standings : GoodIn wsL_law wsX5_standings := goodIn_r _ [667, 35, 23, 28, 413, 414, 468, 668, 566, 567, 568, 34, 569, 87, 92, 570, 571, 572, 573, 88, 90, 91, 89, 574, 575, 576, 577, 578, 434, 435, 22, 436, 62, 437, 418, 419, 579, 580, 581, 582, 583, 584, 585, 586, 587, 588, 589, 470, 471, 472, 55, 56, 433, 590, 591, 592, 846, 847, 848, 849, 850, 851, 852, 853, 854, 855, 856, 919, 920, 921, 922, 923, 924, 925, 904, 905, 906, 907, 908, 909, 910, 911, 912, 913, 914, 915, 916, 917, 918, 926, 927, 928, 929, 930, 931] (by decide +kernel) (by decide +kernel)
set_option maxRecDepth 20000 in
theorem gL_law_X5_standings : GoodIn wsL_law (wsV RL 79 RX5 yX5_standings wsX5_standings) := goodIn_app (goodIn_of _ (by decide +kernel)) ggL_law_X5_standings
set_option maxRecDepth 20000 in
theorem ggL_law_X6_standings : GoodIn wsL_law wsX6_standings := goodIn_r _ [672, 331, 118, 615, 616, 617, 618, 5, 619, 130, 131, 327, 485, 486, 487, 488, 460, 461, 462, 463, 442, 443, 444, 489, 490, 491, 492, 116, 453, 454, 455, 456, 457, 458, 459, 117, 857, 858, 859, 860, 861, 862, 863, 864, 865, 866, 867, 868, 869, 870, 871, 872, 873, 874, 875, 876, 877, 878, 879, 880, 881, 882, 883, 884, 885, 886, 887, 888, 889, 890, 891, 892, 893, 894, 895] (by decide +kernel) (by decide +kernel)
set_option maxRecDepth 20000 in
theorem gL_law_X6_standings : GoodIn wsL_law (wsV RL 82 RX6 yX6_standings wsX6_standings) := goodIn_app (goodIn_of _ (by decide +kernel)) ggL_law_X6_standings
set_option maxRecDepth 20000 in
theorem ggL_law_X5_saw : GoodIn wsL_law wsX5_saw := goodIn_r _ [676, 23, 39, 677, 395, 305, 306, 22, 307, 61, 678, 679, 680, 38, 681, 96, 97, 98, 99, 846, 847, 848, 849, 850, 851, 852, 853, 854, 855, 856, 932, 933, 934, 935, 936, 904, 905, 906, 907, 908, 909, 910, 911, 912, 913, 914, 915, 916, 917, 918] (by decide +kernel) (by decide +kernel)
set_option maxRecDepth 20000 in
theorem gL_law_X5_saw : GoodIn wsL_law (wsV RL 83 RX5 yX5_saw wsX5_saw) := goodIn_app (goodIn_of _ (by decide +kernel)) ggL_law_X5_saw
