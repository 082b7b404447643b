/-! ===== the law: its words stand in the tables ===== -/
theorem in_r {big : List Cond} (ws : List Cond) (ps : List Nat) (hp : ws = ps.filterMap (fun i => big[i]?)) : ∀ w ∈ ws, w ∈ big := by
  intro w hw
  rw [hp] at hw
  obtain ⟨i, -, hi⟩ := List.mem_filterMap.mp hw
  exact List.mem_of_getElem? hi
set_option maxRecDepth 20000 in
theorem wsL_law_r1_in : ∀ w ∈ wsL_law_r1, w ∈ lw_tbl := in_r _ [53, 54, 41, 792, 793, 49, 55, 56, 57, 58, 59, 60, 61, 62, 42, 323, 204, 205, 45, 324, 221, 222, 46, 325] (by decide +kernel)
set_option maxRecDepth 20000 in
theorem wsL_law_r2_in : ∀ w ∈ wsL_law_r2, w ∈ lw_tbl := in_r _ [239, 240, 47, 326, 321, 248, 48, 327, 328, 63, 64, 65, 66, 69, 70, 71, 72, 73, 75, 175, 146, 177, 179, 181] (by decide +kernel)
set_option maxRecDepth 20000 in
theorem wsL_law_r3_in : ∀ w ∈ wsL_law_r3, w ∈ lw_tbl := in_r _ [76, 183, 78, 43, 147, 184, 149, 44, 79, 80, 81, 82, 83, 86, 114, 150, 151, 152, 153, 154, 156, 206, 207, 208] (by decide +kernel)
set_option maxRecDepth 20000 in
theorem wsL_law_r4_in : ∀ w ∈ wsL_law_r4, w ∈ lw_tbl := in_r _ [209, 210, 213, 212, 223, 224, 225, 226, 227, 241, 242, 243, 244, 245, 297, 247, 299, 246, 250, 251, 252, 794, 795, 796] (by decide +kernel)
set_option maxRecDepth 20000 in
theorem wsL_law_r5_in : ∀ w ∈ wsL_law_r5, w ∈ lw_tbl := in_r _ [797, 799, 800, 801, 798, 803, 804, 342, 343, 344, 345, 171, 346, 347, 348, 349, 350, 214, 351, 352, 353, 354, 355, 356] (by decide +kernel)
set_option maxRecDepth 20000 in
theorem wsL_law_r6_in : ∀ w ∈ wsL_law_r6, w ∈ lw_tbl := in_r _ [357, 358, 168, 172, 173, 359, 361, 360, 50, 362, 363, 364, 365, 89, 92, 94, 96, 98, 99, 100, 101, 103, 106, 108] (by decide +kernel)
set_option maxRecDepth 20000 in
theorem wsL_law_r7_in : ∀ w ∈ wsL_law_r7, w ∈ lw_tbl := in_r _ [111, 366, 367, 368, 369, 370, 159, 854, 855, 856, 857, 858, 859, 861, 1, 862, 802, 371, 372, 373, 374, 379, 180, 182] (by decide +kernel)
set_option maxRecDepth 20000 in
theorem wsL_law_r8_in : ∀ w ∈ wsL_law_r8, w ∈ lw_tbl := in_r _ [375, 376, 377, 378, 380, 381, 382, 383, 87, 384, 385, 386, 387, 388, 389, 390, 391, 392, 393, 51, 394, 395, 396, 397] (by decide +kernel)
set_option maxRecDepth 20000 in
theorem wsL_law_r9_in : ∀ w ∈ wsL_law_r9, w ∈ lw_tbl := in_r _ [398, 399, 400, 401, 84, 402, 403, 404, 405, 157, 406, 407, 408, 409, 109, 863, 864, 865, 866, 874, 875, 867, 869, 2] (by decide +kernel)
set_option maxRecDepth 20000 in
theorem wsL_law_r10_in : ∀ w ∈ wsL_law_r10, w ∈ lw_tbl := in_r _ [870, 871, 872, 873, 876, 878, 3, 879, 880, 882, 4, 883, 884, 885, 886, 887, 889, 5, 890, 891, 893, 6, 894, 410] (by decide +kernel)
set_option maxRecDepth 20000 in
theorem wsL_law_r11_in : ∀ w ∈ wsL_law_r11, w ∈ lw_tbl := in_r _ [411, 412, 413, 414, 415, 416, 417, 418, 419, 420, 895, 896, 897, 898, 899, 900, 901, 903, 7, 904, 421, 422, 423, 424] (by decide +kernel)
set_option maxRecDepth 20000 in
theorem wsL_law_r12_in : ∀ w ∈ wsL_law_r12, w ∈ lw_tbl := in_r _ [425, 176, 905, 906, 907, 908, 909, 910, 911, 912, 913, 427, 428, 429, 430, 256, 260, 170, 450, 431, 432, 433, 434, 262] (by decide +kernel)
set_option maxRecDepth 20000 in
theorem wsL_law_r13_in : ∀ w ∈ wsL_law_r13, w ∈ lw_tbl := in_r _ [266, 435, 436, 437, 438, 270, 274, 278, 439, 440, 441, 442, 443, 444, 445, 446, 447, 448, 449, 451, 452, 453, 454, 277] (by decide +kernel)
set_option maxRecDepth 20000 in
theorem wsL_law_r14_in : ∀ w ∈ wsL_law_r14, w ∈ lw_tbl := in_r _ [273, 281, 455, 456, 457, 458, 459, 460, 461, 462, 463, 464, 465, 466, 467, 468, 469, 470, 257, 90, 261, 265, 95, 93] (by decide +kernel)
set_option maxRecDepth 20000 in
theorem wsL_law_r15_in : ∀ w ∈ wsL_law_r15, w ∈ lw_tbl := in_r _ [269, 471, 472, 473, 474, 475, 476, 477, 478, 479, 480, 481, 482, 483, 484, 485, 486, 487, 488, 489, 490, 491, 492, 493] (by decide +kernel)
set_option maxRecDepth 20000 in
theorem wsL_law_r16_in : ∀ w ∈ wsL_law_r16, w ∈ lw_tbl := in_r _ [494, 495, 496, 497, 498, 52, 499, 501, 502, 503, 504, 505, 506, 253, 258, 263, 267, 275, 271, 279, 507, 508, 509, 510] (by decide +kernel)
set_option maxRecDepth 20000 in
theorem wsL_law_r17_in : ∀ w ∈ wsL_law_r17, w ∈ lw_tbl := in_r _ [933, 934, 935, 936, 943, 937, 939, 10, 940, 941, 921, 942, 918, 919, 920, 944, 946, 11, 947, 948, 950, 12, 951, 952] (by decide +kernel)
set_option maxRecDepth 20000 in
theorem wsL_law_r18_in : ∀ w ∈ wsL_law_r18, w ∈ lw_tbl := in_r _ [954, 13, 955, 956, 958, 14, 959, 960, 962, 15, 963, 964, 966, 16, 967, 922, 924, 8, 925, 926, 928, 9, 929, 930] (by decide +kernel)
set_option maxRecDepth 20000 in
theorem wsL_law_r19_in : ∀ w ∈ wsL_law_r19, w ∈ lw_tbl := in_r _ [931, 932, 968, 970, 17, 971, 511, 512, 513, 514, 515, 972, 973, 974, 975, 516, 517, 518, 519, 520, 521, 522, 523, 524] (by decide +kernel)
set_option maxRecDepth 20000 in
theorem wsL_law_r20_in : ∀ w ∈ wsL_law_r20, w ∈ lw_tbl := in_r _ [525, 526, 527, 528, 531, 530, 976, 977, 978, 979, 984, 980, 982, 18, 983, 532, 533, 534, 535, 536, 537, 538, 539, 97] (by decide +kernel)
set_option maxRecDepth 20000 in
theorem wsL_law_r21_in : ∀ w ∈ wsL_law_r21, w ∈ lw_tbl := in_r _ [540, 541, 542, 543, 544, 545, 546, 547, 548, 549, 550, 551, 552, 553, 554, 555, 556, 557, 558, 985, 986, 987, 988, 993] (by decide +kernel)
set_option maxRecDepth 20000 in
theorem wsL_law_r22_in : ∀ w ∈ wsL_law_r22, w ∈ lw_tbl := in_r _ [989, 991, 19, 992, 994, 996, 20, 997, 998, 1000, 21, 1001, 559, 560, 561, 562, 104, 88, 1002, 1003, 1004, 1005, 563, 564] (by decide +kernel)
set_option maxRecDepth 20000 in
theorem wsL_law_r23_in : ∀ w ∈ wsL_law_r23, w ∈ lw_tbl := in_r _ [565, 566, 567, 914, 915, 916, 917, 568, 569, 570, 571, 572, 573, 574, 575, 577, 578, 579, 580, 581, 582, 1006, 1007, 1008] (by decide +kernel)
set_option maxRecDepth 20000 in
theorem wsL_law_r24_in : ∀ w ∈ wsL_law_r24, w ∈ lw_tbl := in_r _ [1009, 583, 584, 585, 586, 587, 1010, 1011, 1012, 1013, 588, 589, 590, 591, 592, 593, 594, 595, 596, 597, 598, 599, 604, 600] (by decide +kernel)
set_option maxRecDepth 20000 in
theorem wsL_law_r25_in : ∀ w ∈ wsL_law_r25, w ∈ lw_tbl := in_r _ [601, 602, 603, 1014, 1015, 1016, 1017, 1018, 1020, 22, 1021, 1022, 1024, 23, 1025, 605, 606, 607, 608, 609, 610, 611, 612, 102] (by decide +kernel)
set_option maxRecDepth 20000 in
theorem wsL_law_r26_in : ∀ w ∈ wsL_law_r26, w ∈ lw_tbl := in_r _ [613, 614, 615, 616, 617, 618, 619, 620, 621, 622, 623, 624, 625, 107, 626, 1026, 1027, 1028, 1029, 1030, 1032, 24, 1033, 1034] (by decide +kernel)
set_option maxRecDepth 20000 in
theorem wsL_law_r27_in : ∀ w ∈ wsL_law_r27, w ∈ lw_tbl := in_r _ [1036, 25, 1037, 1038, 1040, 26, 1041, 627, 628, 629, 630, 174, 215, 229, 631, 632, 633, 634, 105, 635, 636, 637, 638, 639] (by decide +kernel)
set_option maxRecDepth 20000 in
theorem wsL_law_r28_in : ∀ w ∈ wsL_law_r28, w ∈ lw_tbl := in_r _ [640, 641, 642, 643, 644, 645, 646, 647, 648, 650, 0, 651, 178, 1042, 1043, 1044, 1045, 1046, 1047, 1048, 805, 1049, 1051, 27] (by decide +kernel)
set_option maxRecDepth 20000 in
theorem wsL_law_r29_in : ∀ w ∈ wsL_law_r29, w ∈ lw_tbl := in_r _ [1052, 1053, 1054, 1055, 1056, 1058, 28, 1059, 652, 653, 654, 655, 656, 657, 658, 659, 1060, 1061, 1062, 1063, 660, 661, 662, 663] (by decide +kernel)
set_option maxRecDepth 20000 in
theorem wsL_law_r30_in : ∀ w ∈ wsL_law_r30, w ∈ lw_tbl := in_r _ [158, 91, 155, 160, 664, 665, 666, 667, 668, 669, 670, 671, 672, 1064, 1065, 1066, 1067, 1068, 1069, 1070, 1071, 1072, 1074, 29] (by decide +kernel)
set_option maxRecDepth 20000 in
theorem wsL_law_r31_in : ∀ w ∈ wsL_law_r31, w ∈ lw_tbl := in_r _ [1075, 673, 674, 675, 676, 677, 1076, 1077, 1078, 1079, 678, 679, 680, 681, 85, 1080, 1081, 1082, 1083, 1084, 682, 683, 684, 685] (by decide +kernel)
set_option maxRecDepth 20000 in
theorem wsL_law_r32_in : ∀ w ∈ wsL_law_r32, w ∈ lw_tbl := in_r _ [112, 110, 686, 687, 688, 689, 690, 691, 692, 693, 694, 695, 696, 697, 698, 699, 700, 701, 702, 703, 704, 705, 706, 707] (by decide +kernel)
set_option maxRecDepth 20000 in
theorem wsL_law_r33_in : ∀ w ∈ wsL_law_r33, w ∈ lw_tbl := in_r _ [1085, 1086, 1087, 1088, 1089, 1091, 30, 1092, 708, 709, 710, 711, 712, 1093, 1094, 1095, 1096, 713, 714, 715, 716, 717, 718, 719] (by decide +kernel)
set_option maxRecDepth 20000 in
theorem wsL_law_r34_in : ∀ w ∈ wsL_law_r34, w ∈ lw_tbl := in_r _ [720, 721, 113, 722, 1097, 1098, 1099, 1100, 723, 724, 725, 726, 727, 728, 729, 730, 228, 1101, 1102, 1103, 1104, 1105, 1106, 731] (by decide +kernel)
set_option maxRecDepth 20000 in
theorem wsL_law_r35_in : ∀ w ∈ wsL_law_r35, w ∈ lw_tbl := in_r _ [732, 733, 734, 1107, 1108, 1109, 1110, 735, 736, 737, 738, 303, 301, 739, 740, 741, 742, 302, 306, 230, 300, 743, 744, 745] (by decide +kernel)
set_option maxRecDepth 20000 in
theorem wsL_law_r36_in : ∀ w ∈ wsL_law_r36, w ∈ lw_tbl := in_r _ [746, 747, 231, 748, 749, 750, 751, 255, 272, 264, 268, 259, 752, 753, 754, 755, 764, 756, 757, 758, 759, 760, 761, 762] (by decide +kernel)
set_option maxRecDepth 20000 in
theorem wsL_law_r37_in : ∀ w ∈ wsL_law_r37, w ∈ lw_tbl := in_r _ [763, 765, 766, 767, 768, 769, 770, 771, 772, 773, 774, 775, 776, 276, 280, 777, 778, 779, 780, 254, 169, 304, 781, 782] (by decide +kernel)
set_option maxRecDepth 20000 in
theorem wsL_law_r38_in : ∀ w ∈ wsL_law_r38, w ∈ lw_tbl := in_r _ [783, 784, 785, 786, 1111, 1112, 1113, 1114, 814, 1115, 1117, 31, 1118, 1119, 1121, 32, 1122, 806, 816, 807, 811, 808, 809, 810] (by decide +kernel)
set_option maxRecDepth 20000 in
theorem wsL_law_r39_in : ∀ w ∈ wsL_law_r39, w ∈ lw_tbl := in_r _ [812, 813, 1123, 1125, 33, 1126, 1127, 1129, 34, 1130, 1135, 1136, 1131, 1133, 35, 1134, 1137, 1139, 36, 1140, 1141, 1143, 37, 1144] (by decide +kernel)
set_option maxRecDepth 20000 in
theorem wsL_law_r40_in : ∀ w ∈ wsL_law_r40, w ∈ lw_tbl := in_r _ [1145, 1147, 38, 1148, 815, 1149, 1151, 39, 1152, 787, 788, 789, 790, 305, 298, 307, 791, 1153, 1154, 1155, 1156] (by decide +kernel)
set_option maxRecDepth 20000 in
theorem wsX70_in : ∀ w ∈ wsX70, w ∈ lw_tbl := in_r _ [329, 331, 333, 335, 337, 339] (by decide +kernel)
set_option maxRecDepth 20000 in
theorem wsX80_in : ∀ w ∈ wsX80, w ∈ lw_tbl := in_r _ [817, 819, 821, 823, 825, 827, 829, 831, 833, 835, 837, 839, 841, 843, 845, 847, 849, 851] (by decide +kernel)
set_option maxRecDepth 20000 in
theorem wsX00_in : ∀ w ∈ wsX00, w ∈ lw_tbl := in_r _ [185, 187, 189, 191, 193, 195, 197, 199, 201] (by decide +kernel)
set_option maxRecDepth 20000 in
theorem wsX20_in : ∀ w ∈ wsX20, w ∈ lw_tbl := in_r _ [216, 218] (by decide +kernel)
set_option maxRecDepth 20000 in
theorem wsX40_in : ∀ w ∈ wsX40, w ∈ lw_tbl := in_r _ [232, 234, 236] (by decide +kernel)
set_option maxRecDepth 20000 in
theorem wsX50_in : ∀ w ∈ wsX50, w ∈ lw_tbl := in_r _ [308, 310, 312, 314, 316, 318] (by decide +kernel)
set_option maxRecDepth 20000 in
theorem wsX60_in : ∀ w ∈ wsX60, w ∈ lw_tbl := in_r _ [282, 284, 286, 288, 290, 292, 294] (by decide +kernel)
set_option maxRecDepth 20000 in
theorem wsX10_in : ∀ w ∈ wsX10, w ∈ lw_tbl := in_r _ [115, 117, 119, 121, 123, 125, 127, 129, 131, 133, 135, 137, 139, 141, 143] (by decide +kernel)
set_option maxRecDepth 20000 in
theorem wsX30_in : ∀ w ∈ wsX30, w ∈ lw_tbl := in_r _ [161, 163, 165] (by decide +kernel)
set_option maxRecDepth 20000 in
theorem wsL_law_in : ∀ w ∈ wsL_law, w ∈ lw_tbl := (fun w h => (List.mem_append.mp h).elim ((fun w h => (List.mem_append.mp h).elim ((fun w h => (List.mem_append.mp h).elim ((fun w h => (List.mem_append.mp h).elim ((fun w h => (List.mem_append.mp h).elim ((fun w h => (List.mem_append.mp h).elim ((fun w h => (List.mem_append.mp h).elim ((fun w h => (List.mem_append.mp h).elim ((fun w h => (List.mem_append.mp h).elim ((fun w h => (List.mem_append.mp h).elim ((fun w h => (List.mem_append.mp h).elim (wsL_law_r1_in w) ((fun w h => (List.mem_append.mp h).elim (wsL_law_r2_in w) ((fun w h => (List.mem_append.mp h).elim (wsL_law_r3_in w) ((fun w h => (List.mem_append.mp h).elim (wsL_law_r4_in w) ((fun w h => (List.mem_append.mp h).elim (wsL_law_r5_in w) ((fun w h => (List.mem_append.mp h).elim (wsL_law_r6_in w) ((fun w h => (List.mem_append.mp h).elim (wsL_law_r7_in w) ((fun w h => (List.mem_append.mp h).elim (wsL_law_r8_in w) ((fun w h => (List.mem_append.mp h).elim (wsL_law_r9_in w) ((fun w h => (List.mem_append.mp h).elim (wsL_law_r10_in w) ((fun w h => (List.mem_append.mp h).elim (wsL_law_r11_in w) ((fun w h => (List.mem_append.mp h).elim (wsL_law_r12_in w) ((fun w h => (List.mem_append.mp h).elim (wsL_law_r13_in w) ((fun w h => (List.mem_append.mp h).elim (wsL_law_r14_in w) ((fun w h => (List.mem_append.mp h).elim (wsL_law_r15_in w) ((fun w h => (List.mem_append.mp h).elim (wsL_law_r16_in w) ((fun w h => (List.mem_append.mp h).elim (wsL_law_r17_in w) ((fun w h => (List.mem_append.mp h).elim (wsL_law_r18_in w) ((fun w h => (List.mem_append.mp h).elim (wsL_law_r19_in w) ((fun w h => (List.mem_append.mp h).elim (wsL_law_r20_in w) ((fun w h => (List.mem_append.mp h).elim (wsL_law_r21_in w) ((fun w h => (List.mem_append.mp h).elim (wsL_law_r22_in w) ((fun w h => (List.mem_append.mp h).elim (wsL_law_r23_in w) ((fun w h => (List.mem_append.mp h).elim (wsL_law_r24_in w) ((fun w h => (List.mem_append.mp h).elim (wsL_law_r25_in w) ((fun w h => (List.mem_append.mp h).elim (wsL_law_r26_in w) ((fun w h => (List.mem_append.mp h).elim (wsL_law_r27_in w) ((fun w h => (List.mem_append.mp h).elim (wsL_law_r28_in w) ((fun w h => (List.mem_append.mp h).elim (wsL_law_r29_in w) ((fun w h => (List.mem_append.mp h).elim (wsL_law_r30_in w) ((fun w h => (List.mem_append.mp h).elim (wsL_law_r31_in w) ((fun w h => (List.mem_append.mp h).elim (wsL_law_r32_in w) ((fun w h => (List.mem_append.mp h).elim (wsL_law_r33_in w) ((fun w h => (List.mem_append.mp h).elim (wsL_law_r34_in w) ((fun w h => (List.mem_append.mp h).elim (wsL_law_r35_in w) ((fun w h => (List.mem_append.mp h).elim (wsL_law_r36_in w) ((fun w h => (List.mem_append.mp h).elim (wsL_law_r37_in w) ((fun w h => (List.mem_append.mp h).elim (wsL_law_r38_in w) ((fun w h => (List.mem_append.mp h).elim (wsL_law_r39_in w) (wsL_law_r40_in w)) w)) w)) w)) w)) w)) w)) w)) w)) w)) w)) w)) w)) w)) w)) w)) w)) w)) w)) w)) w)) w)) w)) w)) w)) w)) w)) w)) w)) w)) w)) w)) w)) w)) w)) w)) w)) w)) w)) w) (wsX70_in w)) w) (wsX80_in w)) w) (wsX00_in w)) w) (wsX20_in w)) w) (wsX40_in w)) w) (wsX50_in w)) w) (wsX60_in w)) w) (wsX10_in w)) w) (wsX30_in w)) w) ((fun _ h => absurd h List.not_mem_nil) w))
theorem inlX0 : ∀ w ∈ wsX00, w ∈ wsL_law := fun _ h => List.mem_append_left _ (List.mem_append_left _ (List.mem_append_left _ (List.mem_append_left _ (List.mem_append_left _ (List.mem_append_left _ (List.mem_append_left _ (List.mem_append_right _ h)))))))
theorem inX0 : ∀ w ∈ wsX00, w ∈ lw_tbl := fun w h => wsL_law_in w (inlX0 w h)
theorem inlX1 : ∀ w ∈ wsX10, w ∈ wsL_law := fun _ h => List.mem_append_left _ (List.mem_append_left _ (List.mem_append_right _ h))
theorem inX1 : ∀ w ∈ wsX10, w ∈ lw_tbl := fun w h => wsL_law_in w (inlX1 w h)
theorem inlX2 : ∀ w ∈ wsX20, w ∈ wsL_law := fun _ h => List.mem_append_left _ (List.mem_append_left _ (List.mem_append_left _ (List.mem_append_left _ (List.mem_append_left _ (List.mem_append_left _ (List.mem_append_right _ h))))))
theorem inX2 : ∀ w ∈ wsX20, w ∈ lw_tbl := fun w h => wsL_law_in w (inlX2 w h)
theorem inlX3 : ∀ w ∈ wsX30, w ∈ wsL_law := fun _ h => List.mem_append_left _ (List.mem_append_right _ h)
theorem inX3 : ∀ w ∈ wsX30, w ∈ lw_tbl := fun w h => wsL_law_in w (inlX3 w h)
theorem inlX4 : ∀ w ∈ wsX40, w ∈ wsL_law := fun _ h => List.mem_append_left _ (List.mem_append_left _ (List.mem_append_left _ (List.mem_append_left _ (List.mem_append_left _ (List.mem_append_right _ h)))))
theorem inX4 : ∀ w ∈ wsX40, w ∈ lw_tbl := fun w h => wsL_law_in w (inlX4 w h)
theorem inlX5 : ∀ w ∈ wsX50, w ∈ wsL_law := fun _ h => List.mem_append_left _ (List.mem_append_left _ (List.mem_append_left _ (List.mem_append_left _ (List.mem_append_right _ h))))
theorem inX5 : ∀ w ∈ wsX50, w ∈ lw_tbl := fun w h => wsL_law_in w (inlX5 w h)
theorem inlX6 : ∀ w ∈ wsX60, w ∈ wsL_law := fun _ h => List.mem_append_left _ (List.mem_append_left _ (List.mem_append_left _ (List.mem_append_right _ h)))
theorem inX6 : ∀ w ∈ wsX60, w ∈ lw_tbl := fun w h => wsL_law_in w (inlX6 w h)
theorem inlX7 : ∀ w ∈ wsX70, w ∈ wsL_law := fun _ h => List.mem_append_left _ (List.mem_append_left _ (List.mem_append_left _ (List.mem_append_left _ (List.mem_append_left _ (List.mem_append_left _ (List.mem_append_left _ (List.mem_append_left _ (List.mem_append_left _ (List.mem_append_right _ h)))))))))
theorem inX7 : ∀ w ∈ wsX70, w ∈ lw_tbl := fun w h => wsL_law_in w (inlX7 w h)
theorem inlX8 : ∀ w ∈ wsX80, w ∈ wsL_law := fun _ h => List.mem_append_left _ (List.mem_append_left _ (List.mem_append_left _ (List.mem_append_left _ (List.mem_append_left _ (List.mem_append_left _ (List.mem_append_left _ (List.mem_append_left _ (List.mem_append_right _ h))))))))
theorem inX8 : ∀ w ∈ wsX80, w ∈ lw_tbl := fun w h => wsL_law_in w (inlX8 w h)
theorem inJx8e188 : ∀ w ∈ wsJx8e1880, w ∈ lw_tbl := by decide +kernel
theorem inJ6 : ∀ w ∈ wsJ60, w ∈ lw_tbl := by decide +kernel
theorem inJ9 : ∀ w ∈ wsJ90, w ∈ lw_tbl := by decide +kernel
theorem inJ10 : ∀ w ∈ wsJ100, w ∈ lw_tbl := by decide +kernel
