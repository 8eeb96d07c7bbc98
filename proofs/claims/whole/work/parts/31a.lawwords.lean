/-! the law: words among words -/
theorem zInP {big : List Cond} (ws : List Cond) (ps : List Nat) (hp : ws = ps.filterMap (fun i => big[i]?)) : ∀ w ∈ ws, w ∈ big := by
  intro w hw
  rw [hp] at hw
  obtain ⟨i, -, hi⟩ := List.mem_filterMap.mp hw
  exact List.mem_of_getElem? hi
set_option maxRecDepth 20000 in
theorem wsL_law_p1 : ∀ w ∈ wsL_law0_r1, w ∈ lw_tbl := zInP _ [56, 57, 39, 808, 809, 46, 882, 58, 59, 60, 61, 62, 63, 64, 65, 40, 223, 224, 178, 179, 44, 225, 194, 195] rfl
set_option maxRecDepth 20000 in
theorem wsL_law_p2 : ∀ w ∈ wsL_law0_r2, w ∈ lw_tbl := zInP _ [45, 226, 66, 67, 68, 69, 87, 116, 70, 71, 41, 118, 88, 89, 42, 120, 103, 105, 104, 43, 106, 72, 73, 74] rfl
set_option maxRecDepth 20000 in
theorem wsL_law_p3 : ∀ w ∈ wsL_law0_r3, w ∈ lw_tbl := zInP _ [75, 78, 80, 76, 91, 92, 93, 94, 107, 108, 109, 110, 122, 124, 111, 126, 127, 129, 130, 131, 133, 134, 135, 136] rfl
set_option maxRecDepth 20000 in
theorem wsL_law_p4 : ∀ w ∈ wsL_law0_r4, w ∈ lw_tbl := zInP _ [137, 138, 139, 140, 112, 113, 114, 115, 95, 180, 181, 182, 183, 184, 187, 186, 197, 198, 199, 222, 200, 202, 810, 811] rfl
set_option maxRecDepth 20000 in
theorem wsL_law_p5 : ∀ w ∈ wsL_law0_r5, w ∈ lw_tbl := zInP _ [812, 813, 851, 852, 853, 857, 860, 814, 815, 816, 817, 818, 819, 820, 821, 822, 823, 824, 825, 840, 841, 842, 826, 827] rfl
set_option maxRecDepth 20000 in
theorem wsL_law_p6 : ∀ w ∈ wsL_law0_r6, w ∈ lw_tbl := zInP _ [828, 829, 830, 831, 832, 833, 834, 835, 836, 837, 838, 839, 843, 845, 14, 846, 847, 848, 849, 850, 476, 477, 38, 478] rfl
set_option maxRecDepth 20000 in
theorem wsL_law_p7 : ∀ w ∈ wsL_law0_r7, w ∈ lw_tbl := zInP _ [479, 480, 481, 482, 483, 554, 484, 485, 486, 487, 50, 302, 303, 304, 305, 306, 307, 308, 188, 309, 311, 2, 312, 313] rfl
set_option maxRecDepth 20000 in
theorem wsL_law_p8 : ∀ w ∈ wsL_law0_r8, w ∈ lw_tbl := zInP _ [314, 315, 316, 317, 318, 319, 320, 321, 322, 323, 324, 325, 326, 257, 258, 259, 260, 555, 556, 557, 558, 559, 422, 423] rfl
set_option maxRecDepth 20000 in
theorem wsL_law_p9 : ∀ w ∈ wsL_law0_r9, w ∈ lw_tbl := zInP _ [424, 425, 415, 887, 888, 889, 890, 891, 892, 893, 894, 895, 897, 15, 898, 855, 899, 901, 16, 902, 854, 883, 884, 885] rfl
set_option maxRecDepth 20000 in
theorem wsL_law_p10 : ∀ w ∈ wsL_law0_r10, w ∈ lw_tbl := zInP _ [886, 560, 561, 562, 563, 564, 565, 566, 567, 569, 571, 572, 573, 574, 421, 347, 51, 348, 365, 367, 6, 368, 369, 903] rfl
set_option maxRecDepth 20000 in
theorem wsL_law_p11 : ∀ w ∈ wsL_law0_r11, w ∈ lw_tbl := zInP _ [904, 905, 906, 907, 908, 909, 910, 911, 912, 913, 914, 916, 17, 917, 918, 920, 18, 921, 575, 576, 577, 578, 579, 580] rfl
set_option maxRecDepth 20000 in
theorem wsL_law_p12 : ∀ w ∈ wsL_law0_r12, w ∈ lw_tbl := zInP _ [581, 922, 923, 924, 925, 582, 583, 584, 585, 586, 587, 588, 589, 590, 591, 592, 593, 52, 609, 610, 611, 612, 614, 615] rfl
set_option maxRecDepth 20000 in
theorem wsL_law_p13 : ∀ w ∈ wsL_law0_r13, w ∈ lw_tbl := zInP _ [616, 617, 926, 927, 928, 929, 930, 932, 19, 933, 618, 619, 620, 621, 622, 623, 624, 934, 935, 936, 937, 625, 626, 627] rfl
set_option maxRecDepth 20000 in
theorem wsL_law_p14 : ∀ w ∈ wsL_law0_r14, w ∈ lw_tbl := zInP _ [628, 629, 630, 631, 632, 633, 634, 297, 298, 299, 300, 301, 327, 328, 329, 330, 331, 333, 3, 334, 357, 358, 359, 335] rfl
set_option maxRecDepth 20000 in
theorem wsL_law_p15 : ∀ w ∈ wsL_law0_r15, w ∈ lw_tbl := zInP _ [337, 4, 338, 339, 341, 342, 343, 344, 345, 346, 349, 350, 351, 352, 353, 355, 5, 356, 360, 361, 362, 363, 364, 370] rfl
set_option maxRecDepth 20000 in
theorem wsL_law_p16 : ∀ w ∈ wsL_law0_r16, w ∈ lw_tbl := zInP _ [372, 7, 373, 374, 375, 376, 377, 379, 8, 380, 381, 382, 383, 384, 385, 386, 387, 388, 389, 390, 391, 392, 393, 394] rfl
set_option maxRecDepth 20000 in
theorem wsL_law_p17 : ∀ w ∈ wsL_law0_r17, w ∈ lw_tbl := zInP _ [395, 396, 397, 398, 400, 9, 401, 426, 402, 404, 10, 405, 416, 417, 406, 407, 408, 409, 410, 411, 412, 413, 414, 418] rfl
set_option maxRecDepth 20000 in
theorem wsL_law_p18 : ∀ w ∈ wsL_law0_r18, w ∈ lw_tbl := zInP _ [419, 51, 420, 427, 428, 429, 430, 431, 433, 11, 434, 435, 437, 12, 438, 959, 960, 961, 962, 963, 964, 965, 966, 967] rfl
set_option maxRecDepth 20000 in
theorem wsL_law_p19 : ∀ w ∈ wsL_law0_r19, w ∈ lw_tbl := zInP _ [954, 968, 969, 971, 23, 972, 1006, 973, 975, 24, 976, 977, 979, 25, 980, 984, 981, 982, 983, 985, 986, 987, 988, 990] rfl
set_option maxRecDepth 20000 in
theorem wsL_law_p20 : ∀ w ∈ wsL_law0_r20, w ∈ lw_tbl := zInP _ [26, 991, 955, 957, 22, 958, 942, 944, 20, 945, 946, 948, 21, 949, 992, 994, 27, 995, 856, 996, 998, 28, 999, 1000] rfl
set_option maxRecDepth 20000 in
theorem wsL_law_p21 : ∀ w ∈ wsL_law0_r21, w ∈ lw_tbl := zInP _ [1001, 1002, 1004, 29, 1005, 636, 637, 638, 639, 640, 641, 642, 643, 644, 53, 645, 646, 647, 648, 1007, 1008, 1009, 1010, 649] rfl
set_option maxRecDepth 20000 in
theorem wsL_law_p22 : ∀ w ∈ wsL_law0_r22, w ∈ lw_tbl := zInP _ [650, 651, 652, 653, 654, 655, 656, 657, 658, 659, 660, 661, 662, 671, 663, 664, 665, 666, 667, 668, 669, 670, 1011, 1012] rfl
set_option maxRecDepth 20000 in
theorem wsL_law_p23 : ∀ w ∈ wsL_law0_r23, w ∈ lw_tbl := zInP _ [1013, 1014, 1015, 1016, 1017, 1018, 1020, 30, 1021, 1022, 1024, 31, 1025, 672, 673, 674, 675, 676, 677, 678, 679, 459, 460, 461] rfl
set_option maxRecDepth 20000 in
theorem wsL_law_p24 : ∀ w ∈ wsL_law0_r24, w ∈ lw_tbl := zInP _ [1030, 1031, 1032, 1033, 1034, 680, 681, 682, 683, 684, 685, 686, 687, 1035, 1036, 1037, 1038, 688, 689, 690, 691, 692, 693, 694] rfl
set_option maxRecDepth 20000 in
theorem wsL_law_p25 : ∀ w ∈ wsL_law0_r25, w ∈ lw_tbl := zInP _ [695, 463, 464, 465, 1039, 1040, 1041, 1042, 1043, 1045, 32, 1046, 236, 237, 238, 239, 1047, 1048, 1049, 1050, 240, 241, 242, 243] rfl
set_option maxRecDepth 20000 in
theorem wsL_law_p26 : ∀ w ∈ wsL_law0_r26, w ∈ lw_tbl := zInP _ [244, 1051, 1052, 1053, 1054, 245, 246, 247, 248, 249, 250, 251, 252, 1055, 1056, 1057, 1058, 1059, 1060, 54, 1061, 1065, 1067, 1066] rfl
set_option maxRecDepth 20000 in
theorem wsL_law_p27 : ∀ w ∈ wsL_law0_r27, w ∈ lw_tbl := zInP _ [54, 1068, 1062, 1063, 1064, 696, 697, 698, 699, 700, 701, 702, 703, 938, 939, 940, 941, 704, 705, 706, 707, 708, 709, 710] rfl
set_option maxRecDepth 20000 in
theorem wsL_law_p28 : ∀ w ∈ wsL_law0_r28, w ∈ lw_tbl := zInP _ [711, 950, 951, 952, 953, 253, 254, 255, 256, 1069, 1070, 1071, 1072, 712, 713, 714, 715, 716, 717, 718, 720, 1073, 1074, 1075] rfl
set_option maxRecDepth 20000 in
theorem wsL_law_p29 : ∀ w ∈ wsL_law0_r29, w ∈ lw_tbl := zInP _ [1076, 721, 722, 723, 724, 725, 726, 727, 728, 729, 730, 1077, 1078, 1079, 1080, 1081, 1083, 33, 1084, 731, 732, 733, 734, 735] rfl
set_option maxRecDepth 20000 in
theorem wsL_law_p30 : ∀ w ∈ wsL_law0_r30, w ∈ lw_tbl := zInP _ [736, 737, 739, 740, 741, 742, 743, 744, 745, 746, 747, 1085, 1086, 1087, 1088, 1093, 1089, 1091, 34, 1092, 748, 749, 750, 751] rfl
set_option maxRecDepth 20000 in
theorem wsL_law_p31 : ∀ w ∈ wsL_law0_r31, w ∈ lw_tbl := zInP _ [752, 753, 754, 755, 1094, 1095, 1096, 1097, 1098, 756, 757, 758, 759, 760, 761, 762, 763, 1026, 1027, 1028, 1029, 764, 765, 766] rfl
set_option maxRecDepth 20000 in
theorem wsL_law_p32 : ∀ w ∈ wsL_law0_r32, w ∈ lw_tbl := zInP _ [767, 768, 769, 770, 771, 776, 55, 772, 773, 774, 775, 201, 792, 793, 794, 795, 265, 266, 267, 268, 1099, 1100, 1101, 1102] rfl
set_option maxRecDepth 20000 in
theorem wsL_law_p33 : ∀ w ∈ wsL_law0_r33, w ∈ lw_tbl := zInP _ [1103, 858, 261, 262, 263, 264, 269, 270, 271, 272, 1104, 1105, 1106, 1107, 273, 274, 275, 276, 277, 278, 279, 280, 203, 205] rfl
set_option maxRecDepth 20000 in
theorem wsL_law_p34 : ∀ w ∈ wsL_law0_r34, w ∈ lw_tbl := zInP _ [206, 281, 283, 0, 284, 204, 285, 287, 1, 288, 289, 290, 291, 292, 293, 294, 295, 296, 1108, 1109, 1110, 1111, 859, 1112] rfl
set_option maxRecDepth 20000 in
theorem wsL_law_p35 : ∀ w ∈ wsL_law0_r35, w ∈ lw_tbl := zInP _ [1114, 35, 1115, 1116, 1118, 36, 1119, 1120, 1122, 37, 1123, 1124, 1125, 796, 797, 798, 799, 800, 801, 802, 472, 473, 474, 475] rfl
set_option maxRecDepth 20000 in
theorem wsL_law_p36 : ∀ w ∈ wsL_law0_r36, w ∈ lw_tbl := zInP _ [804, 805, 806, 807, 1126, 1127, 1128, 1129, 439, 440, 441, 442, 443, 444, 445, 446, 447, 448, 449, 450, 451, 453, 454, 455] rfl
set_option maxRecDepth 20000 in
theorem wsL_law_p37 : ∀ w ∈ wsL_law0_r37, w ∈ lw_tbl := zInP _ [456, 458, 462, 466, 467, 468, 469, 471, 1130, 1131, 1132, 1133, 1134, 1135] rfl
set_option maxRecDepth 100000 in
theorem zInX0 : ∀ w ∈ wsX00, w ∈ lw_tbl := zInP _ [96, 98] rfl
set_option maxRecDepth 100000 in
theorem zInX1 : ∀ w ∈ wsX10, w ∈ lw_tbl := zInP _ [141, 143, 145, 147, 149, 151, 153, 155, 157, 159, 161, 163, 165, 167, 169, 171, 173, 175] rfl
set_option maxRecDepth 100000 in
theorem zInX2 : ∀ w ∈ wsX20, w ∈ lw_tbl := zInP _ [82, 84] rfl
set_option maxRecDepth 100000 in
theorem zInX3 : ∀ w ∈ wsX30, w ∈ lw_tbl := zInP _ [189, 191] rfl
set_option maxRecDepth 100000 in
theorem zInX4 : ∀ w ∈ wsX40, w ∈ lw_tbl := zInP _ [207, 209, 211, 213, 215, 217, 219] rfl
set_option maxRecDepth 100000 in
theorem zInX5 : ∀ w ∈ wsX50, w ∈ lw_tbl := zInP _ [227, 229, 231, 233] rfl
set_option maxRecDepth 100000 in
theorem zInX6 : ∀ w ∈ wsX60, w ∈ lw_tbl := zInP _ [861, 863, 865, 867, 869, 871, 873, 875, 877, 879] rfl
set_option maxRecDepth 100000 in
theorem wsL_law_in0 : ∀ w ∈ wsL_law0, w ∈ lw_tbl := fun w h => (fun h => (List.mem_append.mp h).elim (fun h => (List.mem_append.mp h).elim (fun h => (List.mem_append.mp h).elim (fun h => (List.mem_append.mp h).elim (fun h => (List.mem_append.mp h).elim (fun h => (List.mem_append.mp h).elim (fun h => (List.mem_append.mp h).elim (fun h => (List.mem_append.mp h).elim (fun h => (List.mem_append.mp h).elim (wsL_law_p1 w) (fun h => (List.mem_append.mp h).elim (wsL_law_p2 w) (fun h => (List.mem_append.mp h).elim (wsL_law_p3 w) (fun h => (List.mem_append.mp h).elim (wsL_law_p4 w) (fun h => (List.mem_append.mp h).elim (wsL_law_p5 w) (fun h => (List.mem_append.mp h).elim (wsL_law_p6 w) (fun h => (List.mem_append.mp h).elim (wsL_law_p7 w) (fun h => (List.mem_append.mp h).elim (wsL_law_p8 w) (fun h => (List.mem_append.mp h).elim (wsL_law_p9 w) (fun h => (List.mem_append.mp h).elim (wsL_law_p10 w) (fun h => (List.mem_append.mp h).elim (wsL_law_p11 w) (fun h => (List.mem_append.mp h).elim (wsL_law_p12 w) (fun h => (List.mem_append.mp h).elim (wsL_law_p13 w) (fun h => (List.mem_append.mp h).elim (wsL_law_p14 w) (fun h => (List.mem_append.mp h).elim (wsL_law_p15 w) (fun h => (List.mem_append.mp h).elim (wsL_law_p16 w) (fun h => (List.mem_append.mp h).elim (wsL_law_p17 w) (fun h => (List.mem_append.mp h).elim (wsL_law_p18 w) (fun h => (List.mem_append.mp h).elim (wsL_law_p19 w) (fun h => (List.mem_append.mp h).elim (wsL_law_p20 w) (fun h => (List.mem_append.mp h).elim (wsL_law_p21 w) (fun h => (List.mem_append.mp h).elim (wsL_law_p22 w) (fun h => (List.mem_append.mp h).elim (wsL_law_p23 w) (fun h => (List.mem_append.mp h).elim (wsL_law_p24 w) (fun h => (List.mem_append.mp h).elim (wsL_law_p25 w) (fun h => (List.mem_append.mp h).elim (wsL_law_p26 w) (fun h => (List.mem_append.mp h).elim (wsL_law_p27 w) (fun h => (List.mem_append.mp h).elim (wsL_law_p28 w) (fun h => (List.mem_append.mp h).elim (wsL_law_p29 w) (fun h => (List.mem_append.mp h).elim (wsL_law_p30 w) (fun h => (List.mem_append.mp h).elim (wsL_law_p31 w) (fun h => (List.mem_append.mp h).elim (wsL_law_p32 w) (fun h => (List.mem_append.mp h).elim (wsL_law_p33 w) (fun h => (List.mem_append.mp h).elim (wsL_law_p34 w) (fun h => (List.mem_append.mp h).elim (wsL_law_p35 w) (fun h => (List.mem_append.mp h).elim (wsL_law_p36 w) (wsL_law_p37 w))))))))))))))))))))))))))))))))))))) (zInX5 w)) (zInX6 w)) (zInX1 w)) (zInX3 w)) (zInX4 w)) (zInX2 w)) (zInX0 w)) (fun h => absurd h List.not_mem_nil)) h
theorem wsL_law_x0 : ∀ w ∈ (vx_atS RX5 92 "java/lang/IllegalArgumentException" ["java/lang/RuntimeException", "java/lang/Exception"]).filter goodWord, w ∈ lw_tbl := by decide +kernel
theorem wsL_law_x1 : ∀ w ∈ (vx_atS RX5 161 "java/lang/IndexOutOfBoundsException" ["java/lang/RuntimeException", "java/lang/Exception"]).filter goodWord, w ∈ lw_tbl := by decide +kernel
theorem wsL_law_x2 : ∀ w ∈ (vx_atS RX5 201 "java/lang/IllegalStateException" ["java/lang/RuntimeException", "java/lang/Exception"]).filter goodWord, w ∈ lw_tbl := by decide +kernel
theorem wsL_law_in : ∀ w ∈ wsL_law, w ∈ lw_tbl := fun w h => (List.mem_append.mp h).elim (fun h => (List.mem_append.mp h).elim (fun h => (List.mem_append.mp h).elim (fun h => wsL_law_in0 w h) (fun h => wsL_law_x0 w h)) (fun h => wsL_law_x1 w h)) (fun h => wsL_law_x2 w h)
theorem inlX0 : ∀ w ∈ wsX00, w ∈ wsL_law := fun _ h => List.mem_append_left _ (List.mem_append_left _ (List.mem_append_left _ (List.mem_append_left _ (List.mem_append_right _ h))))
theorem inX0 : ∀ w ∈ wsX00, w ∈ lw_tbl := fun w h => wsL_law_in w (inlX0 w h)
theorem inlX1 : ∀ w ∈ wsX10, w ∈ wsL_law := fun _ h => List.mem_append_left _ (List.mem_append_left _ (List.mem_append_left _ (List.mem_append_left _ (List.mem_append_left _ (List.mem_append_left _ (List.mem_append_left _ (List.mem_append_left _ (List.mem_append_right _ h))))))))
theorem inX1 : ∀ w ∈ wsX10, w ∈ lw_tbl := fun w h => wsL_law_in w (inlX1 w h)
theorem inlX2 : ∀ w ∈ wsX20, w ∈ wsL_law := fun _ h => List.mem_append_left _ (List.mem_append_left _ (List.mem_append_left _ (List.mem_append_left _ (List.mem_append_left _ (List.mem_append_right _ h)))))
theorem inX2 : ∀ w ∈ wsX20, w ∈ lw_tbl := fun w h => wsL_law_in w (inlX2 w h)
theorem inlX3 : ∀ w ∈ wsX30, w ∈ wsL_law := fun _ h => List.mem_append_left _ (List.mem_append_left _ (List.mem_append_left _ (List.mem_append_left _ (List.mem_append_left _ (List.mem_append_left _ (List.mem_append_left _ (List.mem_append_right _ h)))))))
theorem inX3 : ∀ w ∈ wsX30, w ∈ lw_tbl := fun w h => wsL_law_in w (inlX3 w h)
theorem inlX4 : ∀ w ∈ wsX40, w ∈ wsL_law := fun _ h => List.mem_append_left _ (List.mem_append_left _ (List.mem_append_left _ (List.mem_append_left _ (List.mem_append_left _ (List.mem_append_left _ (List.mem_append_right _ h))))))
theorem inX4 : ∀ w ∈ wsX40, w ∈ lw_tbl := fun w h => wsL_law_in w (inlX4 w h)
theorem inlX5 : ∀ w ∈ wsX50, w ∈ wsL_law := fun _ h => List.mem_append_left _ (List.mem_append_left _ (List.mem_append_left _ (List.mem_append_left _ (List.mem_append_left _ (List.mem_append_left _ (List.mem_append_left _ (List.mem_append_left _ (List.mem_append_left _ (List.mem_append_left _ (List.mem_append_right _ h))))))))))
theorem inX5 : ∀ w ∈ wsX50, w ∈ lw_tbl := fun w h => wsL_law_in w (inlX5 w h)
theorem inlX6 : ∀ w ∈ wsX60, w ∈ wsL_law := fun _ h => List.mem_append_left _ (List.mem_append_left _ (List.mem_append_left _ (List.mem_append_left _ (List.mem_append_left _ (List.mem_append_left _ (List.mem_append_left _ (List.mem_append_left _ (List.mem_append_left _ (List.mem_append_right _ h)))))))))
theorem inX6 : ∀ w ∈ wsX60, w ∈ lw_tbl := fun w h => wsL_law_in w (inlX6 w h)
theorem inJxf58ca : ∀ w ∈ wsJxf58ca0, w ∈ lw_tbl := by decide +kernel
theorem inJ6 : ∀ w ∈ wsJ60, w ∈ lw_tbl := by decide +kernel
theorem inJ9 : ∀ w ∈ wsJ90, w ∈ lw_tbl := by decide +kernel
theorem inJ0 : ∀ w ∈ wsJ00, w ∈ lw_tbl := by decide +kernel
theorem inJ10 : ∀ w ∈ wsJ100, w ∈ lw_tbl := by decide +kernel
