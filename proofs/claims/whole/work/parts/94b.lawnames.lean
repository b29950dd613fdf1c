theorem pos_in {big ws : List Cond} (ps : List Nat) (h : ws = ps.filterMap (fun i => big[i]?)) : ∀ w ∈ ws, w ∈ big := by
  intro w hw
  rw [h] at hw
  obtain ⟨i, -, hi⟩ := List.mem_filterMap.mp hw
  exact List.mem_of_getElem? hi
set_option maxRecDepth 20000 in
theorem in_wsL_law_r1 : ∀ w ∈ wsL_law_r1, w ∈ lw_tbl := pos_in [65, 66, 51, 751, 752, 57, 1101, 67, 68, 69, 70, 71, 72, 104, 275, 276, 73, 74, 52, 277, 105, 106, 53, 278] (by decide +kernel)
set_option maxRecDepth 20000 in
theorem in_wsL_law_r2 : ∀ w ∈ wsL_law_r2, w ∈ lw_tbl := pos_in [279, 185, 186, 54, 280, 281, 184, 282, 219, 220, 55, 283, 245, 246, 56, 284, 285, 76, 77, 78, 81, 82, 83, 107] (by decide +kernel)
set_option maxRecDepth 20000 in
theorem in_wsL_law_r3 : ∀ w ∈ wsL_law_r3, w ∈ lw_tbl := pos_in [108, 109, 110, 141, 143, 145, 147, 151, 152, 111, 112, 113, 114, 119, 122, 125, 129, 131, 136, 138, 149, 150, 115, 116] (by decide +kernel)
set_option maxRecDepth 20000 in
theorem in_wsL_law_r4 : ∀ w ∈ wsL_law_r4, w ∈ lw_tbl := pos_in [117, 118, 188, 189, 190, 191, 193, 195, 197, 199, 201, 202, 222, 223, 224, 225, 227, 228, 229, 230, 231, 248, 249, 250] (by decide +kernel)
set_option maxRecDepth 20000 in
theorem in_wsL_law_r5 : ∀ w ∈ wsL_law_r5, w ∈ lw_tbl := pos_in [253, 255, 256, 257, 251, 270, 258, 271, 272, 273, 274, 128, 135, 753, 754, 755, 756, 757, 761, 762, 763, 764, 765, 766] (by decide +kernel)
set_option maxRecDepth 20000 in
theorem in_wsL_law_r6 : ∀ w ∈ wsL_law_r6, w ∈ lw_tbl := pos_in [769, 771, 773, 775, 776, 777, 778, 786, 787, 788, 789, 790, 792, 793, 794, 795, 309, 310, 311, 312, 875, 876, 877, 878] (by decide +kernel)
set_option maxRecDepth 20000 in
theorem in_wsL_law_r7 : ∀ w ∈ wsL_law_r7, w ∈ lw_tbl := pos_in [879, 758, 883, 880, 881, 882, 313, 314, 315, 316, 884, 885, 886, 887, 317, 318, 319, 320, 321, 322, 323, 324, 79, 325] (by decide +kernel)
set_option maxRecDepth 20000 in
theorem in_wsL_law_r8 : ∀ w ∈ wsL_law_r8, w ∈ lw_tbl := pos_in [326, 58, 327, 80, 84, 85, 86, 328, 330, 0, 331, 332, 334, 1, 335, 336, 338, 2, 339, 340, 342, 3, 343, 344] (by decide +kernel)
set_option maxRecDepth 20000 in
theorem in_wsL_law_r9 : ∀ w ∈ wsL_law_r9, w ∈ lw_tbl := pos_in [345, 346, 347, 348, 349, 350, 352, 4, 353, 354, 356, 5, 357, 359, 361, 6, 362, 363, 364, 365, 59, 366, 1102, 367] (by decide +kernel)
set_option maxRecDepth 20000 in
theorem in_wsL_law_r10 : ∀ w ∈ wsL_law_r10, w ∈ lw_tbl := pos_in [368, 369, 370, 371, 1103, 373, 374, 375, 376, 377, 378, 379, 380, 381, 382, 60, 383, 384, 385, 386, 387, 389, 390, 61] (by decide +kernel)
set_option maxRecDepth 20000 in
theorem in_wsL_law_r11 : ∀ w ∈ wsL_law_r11, w ∈ lw_tbl := pos_in [391, 392, 393, 62, 394, 395, 396, 397, 398, 399, 400, 401, 402, 403, 404, 405, 407, 409, 416, 418, 7, 419, 420, 421] (by decide +kernel)
set_option maxRecDepth 20000 in
theorem in_wsL_law_r12 : ∀ w ∈ wsL_law_r12, w ∈ lw_tbl := pos_in [423, 8, 424, 132, 137, 139, 425, 427, 9, 428, 120, 429, 431, 10, 432, 433, 435, 11, 436, 437, 439, 12, 440, 441] (by decide +kernel)
set_option maxRecDepth 20000 in
theorem in_wsL_law_r13 : ∀ w ∈ wsL_law_r13, w ∈ lw_tbl := pos_in [443, 13, 444, 445, 446, 447, 448, 449, 451, 14, 452, 126, 453, 454, 455, 456, 457, 458, 459, 460, 461, 463, 15, 464] (by decide +kernel)
set_option maxRecDepth 20000 in
theorem in_wsL_law_r14 : ∀ w ∈ wsL_law_r14, w ∈ lw_tbl := pos_in [465, 466, 467, 468, 469, 470, 471, 472, 473, 888, 889, 890, 891, 781, 784, 759, 785, 760, 767, 768, 770, 772, 774, 892] (by decide +kernel)
set_option maxRecDepth 20000 in
theorem in_wsL_law_r15 : ∀ w ∈ wsL_law_r15, w ∈ lw_tbl := pos_in [894, 30, 895, 780, 782, 783, 912, 925, 930, 935, 936, 937, 896, 898, 31, 899, 906, 907, 908, 909, 910, 911, 900, 901] (by decide +kernel)
set_option maxRecDepth 20000 in
theorem in_wsL_law_r16 : ∀ w ∈ wsL_law_r16, w ∈ lw_tbl := pos_in [902, 903, 904, 905, 913, 915, 32, 916, 917, 919, 33, 920, 921, 923, 34, 924, 926, 928, 35, 929, 931, 933, 36, 934] (by decide +kernel)
set_option maxRecDepth 20000 in
theorem in_wsL_law_r17 : ∀ w ∈ wsL_law_r17, w ∈ lw_tbl := pos_in [938, 939, 940, 475, 476, 477, 478, 142, 144, 146, 148, 479, 480, 481, 482, 483, 941, 942, 943, 944, 949, 945, 947, 37] (by decide +kernel)
set_option maxRecDepth 20000 in
theorem in_wsL_law_r18 : ∀ w ∈ wsL_law_r18, w ∈ lw_tbl := pos_in [948, 484, 485, 486, 487, 192, 134, 194, 196, 488, 489, 490, 491, 492, 493, 494, 495, 496, 497, 498, 499, 500, 501, 502] (by decide +kernel)
set_option maxRecDepth 20000 in
theorem in_wsL_law_r19 : ∀ w ∈ wsL_law_r19, w ∈ lw_tbl := pos_in [503, 504, 505, 506, 507, 508, 950, 951, 952, 953, 954, 955, 956, 957, 959, 38, 960, 961, 963, 39, 964, 965, 966, 967] (by decide +kernel)
set_option maxRecDepth 20000 in
theorem in_wsL_law_r20 : ∀ w ∈ wsL_law_r20, w ∈ lw_tbl := pos_in [968, 970, 40, 971, 972, 974, 41, 975, 509, 510, 511, 512, 124, 513, 514, 515, 516, 517, 518, 519, 520, 521, 523, 16] (by decide +kernel)
set_option maxRecDepth 20000 in
theorem in_wsL_law_r21 : ∀ w ∈ wsL_law_r21, w ∈ lw_tbl := pos_in [524, 976, 977, 978, 979, 980, 982, 42, 983, 984, 986, 43, 987, 988, 990, 44, 991, 525, 526, 527, 528, 992, 993, 994] (by decide +kernel)
set_option maxRecDepth 20000 in
theorem in_wsL_law_r22 : ∀ w ∈ wsL_law_r22, w ∈ lw_tbl := pos_in [995, 529, 530, 531, 532, 140, 533, 534, 535, 536, 537, 538, 539, 540, 541, 542, 543, 544, 545, 546, 547, 548, 549, 996] (by decide +kernel)
set_option maxRecDepth 20000 in
theorem in_wsL_law_r23 : ∀ w ∈ wsL_law_r23, w ∈ lw_tbl := pos_in [997, 998, 999, 1000, 550, 551, 552, 553, 1001, 1002, 1003, 1004, 554, 555, 556, 557, 200, 558, 559, 560, 561, 1005, 1006, 1007] (by decide +kernel)
set_option maxRecDepth 20000 in
theorem in_wsL_law_r24 : ∀ w ∈ wsL_law_r24, w ∈ lw_tbl := pos_in [1008, 562, 563, 564, 565, 198, 1009, 1010, 1011, 1012, 566, 567, 568, 569, 570, 571, 572, 573, 574, 576, 17, 577, 578, 580] (by decide +kernel)
set_option maxRecDepth 20000 in
theorem in_wsL_law_r25 : ∀ w ∈ wsL_law_r25, w ∈ lw_tbl := pos_in [18, 581, 582, 583, 584, 585, 586, 587, 63, 588, 589, 590, 591, 592, 593, 594, 595, 596, 597, 598, 599, 600, 601, 602] (by decide +kernel)
set_option maxRecDepth 20000 in
theorem in_wsL_law_r26 : ∀ w ∈ wsL_law_r26, w ∈ lw_tbl := pos_in [603, 604, 605, 606, 607, 608, 609, 1013, 1014, 1015, 1016, 1017, 1019, 45, 1020, 791, 1021, 1023, 46, 1024, 1025, 1027, 47, 1028] (by decide +kernel)
set_option maxRecDepth 20000 in
theorem in_wsL_law_r27 : ∀ w ∈ wsL_law_r27, w ∈ lw_tbl := pos_in [610, 611, 612, 613, 614, 615, 616, 617, 618, 619, 620, 621, 622, 1029, 1030, 1031, 1032, 1033, 623, 624, 625, 626, 627, 629] (by decide +kernel)
set_option maxRecDepth 20000 in
theorem in_wsL_law_r28 : ∀ w ∈ wsL_law_r28, w ∈ lw_tbl := pos_in [19, 630, 1034, 1035, 1036, 1037, 631, 632, 633, 634, 635, 1038, 1039, 1040, 1041, 1042, 636, 637, 638, 639, 226, 1043, 1044, 1045] (by decide +kernel)
set_option maxRecDepth 20000 in
theorem in_wsL_law_r29 : ∀ w ∈ wsL_law_r29, w ∈ lw_tbl := pos_in [1046, 640, 641, 642, 643, 254, 644, 645, 646, 647, 1047, 1048, 1049, 1050, 1051, 648, 649, 650, 651, 1052, 1053, 1054, 1055, 652] (by decide +kernel)
set_option maxRecDepth 20000 in
theorem in_wsL_law_r30 : ∀ w ∈ wsL_law_r30, w ∈ lw_tbl := pos_in [653, 654, 655, 656, 657, 658, 659, 660, 130, 661, 662, 64, 663, 664, 666, 20, 667, 668, 670, 21, 671, 133, 123, 672] (by decide +kernel)
set_option maxRecDepth 20000 in
theorem in_wsL_law_r31 : ∀ w ∈ wsL_law_r31, w ∈ lw_tbl := pos_in [673, 674, 675, 676, 677, 678, 679, 680, 681, 682, 683, 684, 686, 22, 687, 688, 690, 23, 691, 692, 1056, 1057, 1058, 1059] (by decide +kernel)
set_option maxRecDepth 20000 in
theorem in_wsL_law_r32 : ∀ w ∈ wsL_law_r32, w ∈ lw_tbl := pos_in [1060, 1062, 48, 1063, 1064, 1066, 49, 1067, 693, 694, 695, 696, 697, 1068, 1069, 1070, 1071, 1072, 698, 699, 700, 701, 702, 704] (by decide +kernel)
set_option maxRecDepth 20000 in
theorem in_wsL_law_r33 : ∀ w ∈ wsL_law_r33, w ∈ lw_tbl := pos_in [24, 705, 706, 708, 25, 709, 710, 712, 26, 713, 714, 715, 716, 718, 27, 719, 720, 721, 723, 28, 724, 725, 726, 728] (by decide +kernel)
set_option maxRecDepth 20000 in
theorem in_wsL_law_r34 : ∀ w ∈ wsL_law_r34, w ∈ lw_tbl := pos_in [29, 729, 730, 1073, 1074, 1075, 1076, 779, 1077, 1078, 1079, 1080, 1081, 1082, 1083, 1084, 731, 732, 733, 734, 735, 736, 737, 738] (by decide +kernel)
set_option maxRecDepth 20000 in
theorem in_wsL_law_r35 : ∀ w ∈ wsL_law_r35, w ∈ lw_tbl := pos_in [1085, 1086, 1087, 1088, 739, 740, 741, 742, 1089, 1090, 1091, 1092, 743, 744, 745, 746, 121, 127, 1093, 1094, 1095, 1096, 747, 748] (by decide +kernel)
set_option maxRecDepth 20000 in
theorem in_wsL_law_r36 : ∀ w ∈ wsL_law_r36, w ∈ lw_tbl := pos_in [749, 750, 1097, 1098, 1099, 1100] (by decide +kernel)
set_option maxRecDepth 20000 in
theorem inX0 : ∀ w ∈ wsX00, w ∈ lw_tbl := by decide +kernel
set_option maxRecDepth 20000 in
theorem inX1 : ∀ w ∈ wsX10, w ∈ lw_tbl := by decide +kernel
set_option maxRecDepth 20000 in
theorem inX2 : ∀ w ∈ wsX20, w ∈ lw_tbl := by decide +kernel
set_option maxRecDepth 20000 in
theorem inX3 : ∀ w ∈ wsX30, w ∈ lw_tbl := by decide +kernel
set_option maxRecDepth 20000 in
theorem inX4 : ∀ w ∈ wsX40, w ∈ lw_tbl := by decide +kernel
set_option maxRecDepth 20000 in
theorem inX5 : ∀ w ∈ wsX50, w ∈ lw_tbl := by decide +kernel
set_option maxRecDepth 20000 in
theorem inX6 : ∀ w ∈ wsX60, w ∈ lw_tbl := by decide +kernel
theorem wsL_law_in : ∀ w ∈ wsL_law, w ∈ lw_tbl := (List.forall_mem_append.mpr ⟨(List.forall_mem_append.mpr ⟨(List.forall_mem_append.mpr ⟨(List.forall_mem_append.mpr ⟨(List.forall_mem_append.mpr ⟨(List.forall_mem_append.mpr ⟨(List.forall_mem_append.mpr ⟨(List.forall_mem_append.mpr ⟨(List.forall_mem_append.mpr ⟨in_wsL_law_r1, (List.forall_mem_append.mpr ⟨in_wsL_law_r2, (List.forall_mem_append.mpr ⟨in_wsL_law_r3, (List.forall_mem_append.mpr ⟨in_wsL_law_r4, (List.forall_mem_append.mpr ⟨in_wsL_law_r5, (List.forall_mem_append.mpr ⟨in_wsL_law_r6, (List.forall_mem_append.mpr ⟨in_wsL_law_r7, (List.forall_mem_append.mpr ⟨in_wsL_law_r8, (List.forall_mem_append.mpr ⟨in_wsL_law_r9, (List.forall_mem_append.mpr ⟨in_wsL_law_r10, (List.forall_mem_append.mpr ⟨in_wsL_law_r11, (List.forall_mem_append.mpr ⟨in_wsL_law_r12, (List.forall_mem_append.mpr ⟨in_wsL_law_r13, (List.forall_mem_append.mpr ⟨in_wsL_law_r14, (List.forall_mem_append.mpr ⟨in_wsL_law_r15, (List.forall_mem_append.mpr ⟨in_wsL_law_r16, (List.forall_mem_append.mpr ⟨in_wsL_law_r17, (List.forall_mem_append.mpr ⟨in_wsL_law_r18, (List.forall_mem_append.mpr ⟨in_wsL_law_r19, (List.forall_mem_append.mpr ⟨in_wsL_law_r20, (List.forall_mem_append.mpr ⟨in_wsL_law_r21, (List.forall_mem_append.mpr ⟨in_wsL_law_r22, (List.forall_mem_append.mpr ⟨in_wsL_law_r23, (List.forall_mem_append.mpr ⟨in_wsL_law_r24, (List.forall_mem_append.mpr ⟨in_wsL_law_r25, (List.forall_mem_append.mpr ⟨in_wsL_law_r26, (List.forall_mem_append.mpr ⟨in_wsL_law_r27, (List.forall_mem_append.mpr ⟨in_wsL_law_r28, (List.forall_mem_append.mpr ⟨in_wsL_law_r29, (List.forall_mem_append.mpr ⟨in_wsL_law_r30, (List.forall_mem_append.mpr ⟨in_wsL_law_r31, (List.forall_mem_append.mpr ⟨in_wsL_law_r32, (List.forall_mem_append.mpr ⟨in_wsL_law_r33, (List.forall_mem_append.mpr ⟨in_wsL_law_r34, (List.forall_mem_append.mpr ⟨in_wsL_law_r35, in_wsL_law_r36⟩)⟩)⟩)⟩)⟩)⟩)⟩)⟩)⟩)⟩)⟩)⟩)⟩)⟩)⟩)⟩)⟩)⟩)⟩)⟩)⟩)⟩)⟩)⟩)⟩)⟩)⟩)⟩)⟩)⟩)⟩)⟩)⟩)⟩)⟩), inX5⟩), inX6⟩), inX2⟩), inX3⟩), inX0⟩), inX1⟩), inX4⟩), fun _ h => absurd h List.not_mem_nil⟩)
theorem inlX0 : ∀ w ∈ wsX00, w ∈ wsL_law := fun _ h => List.mem_append_left _ (List.mem_append_left _ (List.mem_append_left _ (List.mem_append_right _ h)))
theorem inlX1 : ∀ w ∈ wsX10, w ∈ wsL_law := fun _ h => List.mem_append_left _ (List.mem_append_left _ (List.mem_append_right _ h))
theorem inlX2 : ∀ w ∈ wsX20, w ∈ wsL_law := fun _ h => List.mem_append_left _ (List.mem_append_left _ (List.mem_append_left _ (List.mem_append_left _ (List.mem_append_left _ (List.mem_append_right _ h)))))
theorem inlX3 : ∀ w ∈ wsX30, w ∈ wsL_law := fun _ h => List.mem_append_left _ (List.mem_append_left _ (List.mem_append_left _ (List.mem_append_left _ (List.mem_append_right _ h))))
theorem inlX4 : ∀ w ∈ wsX40, w ∈ wsL_law := fun _ h => List.mem_append_left _ (List.mem_append_right _ h)
theorem inlX5 : ∀ w ∈ wsX50, w ∈ wsL_law := fun _ h => List.mem_append_left _ (List.mem_append_left _ (List.mem_append_left _ (List.mem_append_left _ (List.mem_append_left _ (List.mem_append_left _ (List.mem_append_left _ (List.mem_append_right _ h)))))))
theorem inlX6 : ∀ w ∈ wsX60, w ∈ wsL_law := fun _ h => List.mem_append_left _ (List.mem_append_left _ (List.mem_append_left _ (List.mem_append_left _ (List.mem_append_left _ (List.mem_append_left _ (List.mem_append_right _ h))))))
