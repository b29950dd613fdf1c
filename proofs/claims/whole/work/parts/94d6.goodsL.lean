set_option maxRecDepth 20000 in
theorem ggL_law_X6_saw : GoodIn wsL_law wsX6_saw := goodIn_r _ [685, 686, 334, 123, 124, 125, 147, 148, 5, 149, 405, 406, 407, 408, 327, 857, 858, 859, 860, 861, 862, 863, 864, 865, 866, 867, 868, 869, 870, 871, 872, 873, 874, 875, 876, 877, 878, 879, 880, 881, 882, 883, 884, 885, 886, 887, 888, 889, 890, 891, 892, 893, 894, 895] (by decide +kernel) (by decide +kernel)
set_option maxRecDepth 20000 in
theorem gL_law_X6_saw : GoodIn wsL_law (wsV RL 87 RX6 yX6_saw wsX6_saw) := goodIn_app (goodIn_of _ (by decide +kernel)) ggL_law_X6_saw
set_option maxRecDepth 20000 in
theorem ggL_law_X5_forget : GoodIn wsL_law wsX5_forget := goodIn_r _ [690, 39, 677, 317, 318, 319, 38, 320, 96, 846, 847, 848, 849, 850, 851, 852, 853, 854, 855, 856, 932, 933, 934, 935, 936] (by decide +kernel) (by decide +kernel)
set_option maxRecDepth 20000 in
theorem gL_law_X5_forget : GoodIn wsL_law (wsV RL 88 RX5 yX5_forget wsX5_forget) := goodIn_app (goodIn_of _ (by decide +kernel)) ggL_law_X5_forget
set_option maxRecDepth 20000 in
theorem ggL_law_X6_forget : GoodIn wsL_law wsX6_forget := goodIn_r _ [694, 334, 857, 858, 859, 860, 861, 862, 863, 864, 865, 866, 867, 868, 869, 870, 871, 872, 873, 874, 875, 876, 877, 878, 879, 880, 881, 882, 883, 884, 885, 886, 887, 888, 889, 890, 891, 892, 893, 894, 895] (by decide +kernel) (by decide +kernel)
set_option maxRecDepth 20000 in
theorem gL_law_X6_forget : GoodIn wsL_law (wsV RL 91 RX6 yX6_forget wsX6_forget) := goodIn_app (goodIn_of _ (by decide +kernel)) ggL_law_X6_forget
set_option maxRecDepth 20000 in
theorem ggL_law_X5_fits : GoodIn wsL_law wsX5_fits := goodIn_r _ [698, 699, 39, 23, 700, 701, 702, 38, 703, 102, 704, 705, 706, 707, 708, 709, 710, 711, 712, 96, 97, 98, 99, 713, 714, 715, 716, 717, 718, 719, 434, 435, 22, 436, 62, 437, 418, 419, 720, 580, 581, 582, 583, 584, 585, 586, 587, 588, 721, 470, 471, 472, 55, 56, 433, 722, 591, 592, 723, 724, 725, 726, 727, 728, 729, 730, 731, 732, 733, 734, 735, 736, 737, 738, 739, 525, 169, 526, 846, 847, 848, 849, 850, 851, 852, 853, 854, 855, 856, 932, 933, 934, 935, 936, 904, 905, 906, 907, 908, 909, 910, 911, 912, 913, 914, 915, 916, 917, 918] (by decide +kernel) (by decide +kernel)
set_option maxRecDepth 20000 in
theorem gL_law_X5_fits : GoodIn wsL_law (wsV RL 92 RX5 yX5_fits wsX5_fits) := goodIn_app (goodIn_of _ (by decide +kernel)) ggL_law_X5_fits
set_option maxRecDepth 20000 in
theorem ggL_law_X6_fits : GoodIn wsL_law wsX6_fits := goodIn_r _ [743, 686, 354, 327, 147, 148, 5, 149, 744, 745, 746, 747, 134, 330, 135, 118, 748, 749, 750, 751, 334, 123, 124, 125, 453, 454, 455, 485, 486, 487, 488, 460, 461, 462, 463, 442, 443, 444, 489, 490, 491, 492, 116, 456, 457, 458, 459, 117, 857, 858, 859, 860, 861, 862, 863, 864, 865, 866, 867, 868, 869, 870, 871, 872, 873, 874, 875, 876, 877, 878, 879, 880, 881, 882, 883, 884, 885, 886, 887, 888, 889, 890, 891, 892, 893, 894, 895] (by decide +kernel) (by decide +kernel)
set_option maxRecDepth 20000 in
theorem gL_law_X6_fits : GoodIn wsL_law (wsV RL 96 RX6 yX6_fits wsX6_fits) := goodIn_app (goodIn_of _ (by decide +kernel)) ggL_law_X6_fits
set_option maxRecDepth 20000 in
theorem ggL_law_X5_owed : GoodIn wsL_law wsX5_owed := goodIn_r _ [755, 23, 699, 28, 413, 756, 392, 395, 305, 306, 22, 307, 61, 420, 421, 422, 423, 68, 69, 846, 847, 848, 849, 850, 851, 852, 853, 854, 855, 856, 919, 920, 921, 922, 923, 924, 925, 904, 905, 906, 907, 908, 909, 910, 911, 912, 913, 914, 915, 916, 917, 918] (by decide +kernel) (by decide +kernel)
set_option maxRecDepth 20000 in
theorem gL_law_X5_owed : GoodIn wsL_law (wsV RL 97 RX5 yX5_owed wsX5_owed) := goodIn_app (goodIn_of _ (by decide +kernel)) ggL_law_X5_owed
set_option maxRecDepth 20000 in
theorem ggL_law_X6_owed : GoodIn wsL_law wsX6_owed := goodIn_r _ [760, 761, 354, 331, 355, 115, 405, 406, 407, 5, 408, 327, 147, 148, 149, 445, 446, 447, 448, 114, 453, 454, 455, 857, 858, 859, 860, 861, 862, 863, 864, 865, 866, 867, 868, 869, 870, 871, 872, 873, 874, 875, 876, 877, 878, 879, 880, 881, 882, 883, 884, 885, 886, 887, 888, 889, 890, 891, 892, 893, 894, 895] (by decide +kernel) (by decide +kernel)
set_option maxRecDepth 20000 in
theorem gL_law_X6_owed : GoodIn wsL_law (wsV RL 100 RX6 yX6_owed wsX6_owed) := goodIn_app (goodIn_of _ (by decide +kernel)) ggL_law_X6_owed
