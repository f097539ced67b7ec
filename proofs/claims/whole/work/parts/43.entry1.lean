theorem g_ix {big ws : List Cond} (ps : List Nat) (hp : ws = ps.filterMap (fun i => big[i]?)) : ∀ w ∈ ws, w ∈ big := by
  intro w hw
  rw [hp] at hw
  obtain ⟨i, -, hi⟩ := List.mem_filterMap.mp hw
  exact List.mem_of_getElem? hi
set_option maxRecDepth 20000 in
theorem tl_TT0 : ∀ w ∈ TT0, w ∈ lw_tbl := g_ix [85, 86, 61, 845, 846, 70, 224, 1207, 537, 538, 60, 539, 87, 88, 89, 90, 91, 92, 93, 94, 62, 95, 96, 63] (by decide +kernel)
set_option maxRecDepth 20000 in
theorem tl_TT1 : ∀ w ∈ TT1, w ∈ lw_tbl := g_ix [97, 98, 99, 100, 297, 115, 298, 117, 64, 184, 185, 66, 299, 201, 202, 67, 300, 101, 102, 103, 104, 114, 105, 108] (by decide +kernel)
set_option maxRecDepth 20000 in
theorem tl_TT2 : ∀ w ∈ TT2, w ∈ lw_tbl := g_ix [118, 119, 120, 121, 142, 144, 122, 123, 65, 146, 153, 154, 152, 125, 126, 127, 130, 131, 132, 187, 188, 189, 200, 190] (by decide +kernel)
set_option maxRecDepth 20000 in
theorem tl_TT3 : ∀ w ∈ TT3, w ∈ lw_tbl := g_ix [203, 204, 205, 206, 247, 255, 256, 207, 208, 68, 257, 225, 226, 69, 258, 210, 211, 212, 215, 216, 227, 228, 229, 230] (by decide +kernel)
set_option maxRecDepth 20000 in
theorem tl_TT4 : ∀ w ∈ TT4, w ∈ lw_tbl := g_ix [231, 232, 233, 847, 848, 849, 850, 854, 865, 866, 867, 868, 869, 870, 871, 872, 873, 874, 875, 876, 877, 878, 879, 880] (by decide +kernel)
set_option maxRecDepth 20000 in
theorem tl_TT5 : ∀ w ∈ TT5, w ∈ lw_tbl := g_ix [881, 852, 540, 541, 542, 543, 544, 545, 546, 547, 548, 556, 74, 619, 75, 192, 549, 550, 551, 552, 553, 554, 555, 634] (by decide +kernel)
set_option maxRecDepth 20000 in
theorem tl_TT6 : ∀ w ∈ TT6, w ∈ lw_tbl := g_ix [635, 636, 637, 193, 949, 950, 951, 952, 953, 855, 851, 954, 955, 956, 957, 958, 959, 945, 946, 947, 948, 313, 314, 315] (by decide +kernel)
set_option maxRecDepth 20000 in
theorem tl_TT7 : ∀ w ∈ TT7, w ∈ lw_tbl := g_ix [316, 960, 961, 962, 963, 638, 639, 640, 641, 642, 643, 644, 645, 646, 76, 252, 248, 145, 250, 842, 844, 843, 82, 325] (by decide +kernel)
set_option maxRecDepth 20000 in
theorem tl_TT8 : ∀ w ∈ TT8, w ∈ lw_tbl := g_ix [326, 327, 328, 329, 330, 661, 662, 663, 664, 259, 249, 214, 251, 253, 665, 666, 667, 668, 234, 235, 194, 191, 669, 670] (by decide +kernel)
set_option maxRecDepth 20000 in
theorem tl_TT9 : ∀ w ∈ TT9, w ∈ lw_tbl := g_ix [671, 672, 674, 17, 675, 676, 677, 678, 679, 680, 681, 682, 684, 18, 685, 692, 686, 688, 19, 689, 690, 691, 693, 695] (by decide +kernel)
set_option maxRecDepth 20000 in
theorem tl_TT10 : ∀ w ∈ TT10, w ∈ lw_tbl := g_ix [20, 696, 697, 699, 21, 700, 701, 703, 22, 704, 705, 706, 707, 708, 709, 711, 23, 712, 260, 261, 262, 263, 264, 265] (by decide +kernel)
set_option maxRecDepth 20000 in
theorem tl_TT11 : ∀ w ∈ TT11, w ∈ lw_tbl := g_ix [713, 714, 715, 716, 717, 718, 719, 720, 721, 722, 723, 1209, 726, 728, 24, 729, 1210, 1211, 730, 731, 732, 77, 733, 1212] (by decide +kernel)
set_option maxRecDepth 20000 in
theorem tl_TT12 : ∀ w ∈ TT12, w ∈ lw_tbl := g_ix [734, 735, 736, 737, 738, 1213, 740, 741, 742, 743, 744, 745, 746, 747, 748, 749, 78, 750, 751, 752, 753, 754, 756, 757] (by decide +kernel)
set_option maxRecDepth 20000 in
theorem tl_TT13 : ∀ w ∈ TT13, w ∈ lw_tbl := g_ix [79, 758, 759, 760, 80, 761, 762, 763, 764, 765, 766, 767, 768, 769, 770, 771, 772, 774, 776, 778, 780, 25, 781, 782] (by decide +kernel)
set_option maxRecDepth 20000 in
theorem tl_TT14 : ∀ w ∈ TT14, w ∈ lw_tbl := g_ix [783, 784, 785, 787, 26, 788, 789, 790, 798, 799, 800, 801, 802, 807, 808, 812, 813, 791, 793, 27, 794, 795, 796, 81] (by decide +kernel)
set_option maxRecDepth 20000 in
theorem tl_TT15 : ∀ w ∈ TT15, w ∈ lw_tbl := g_ix [797, 803, 805, 28, 806, 809, 810, 811, 814, 815, 816, 403, 817, 819, 29, 820, 821, 822, 823, 824, 213, 825, 827, 30] (by decide +kernel)
set_option maxRecDepth 20000 in
theorem tl_TT16 : ∀ w ∈ TT16, w ∈ lw_tbl := g_ix [828, 829, 831, 31, 832, 833, 834, 835, 836, 837, 839, 32, 840, 841, 375, 376, 964, 965, 966, 967, 856, 859, 860, 861] (by decide +kernel)
set_option maxRecDepth 20000 in
theorem tl_TT17 : ∀ w ∈ TT17, w ∈ lw_tbl := g_ix [862, 857, 858, 968, 970, 33, 971, 972, 974, 34, 975, 863, 864, 976, 978, 35, 979, 980, 982, 36, 983, 984, 986, 37] (by decide +kernel)
set_option maxRecDepth 20000 in
theorem tl_TT18 : ∀ w ∈ TT18, w ∈ lw_tbl := g_ix [987, 988, 989, 990, 991, 993, 38, 994, 995, 996, 997, 998, 999, 1000, 1001, 1002, 1003, 1004, 1005, 1006, 1007, 1008, 1009, 1010] (by decide +kernel)
set_option maxRecDepth 20000 in
theorem tl_TT19 : ∀ w ∈ TT19, w ∈ lw_tbl := g_ix [1011, 1012, 1013, 1014, 1015, 1016, 1017, 1018, 1019, 1020, 1021, 1022, 1023, 1024, 1025, 1026, 1027, 1028, 1029, 1030, 1031, 1032, 1033, 1034] (by decide +kernel)
set_option maxRecDepth 20000 in
theorem tl_TT20 : ∀ w ∈ TT20, w ∈ lw_tbl := g_ix [1035, 1036, 1037, 1038, 1040, 39, 1041, 1057, 1063, 1064, 1084, 1085, 1086, 1087, 1042, 1044, 40, 1045, 1046, 1048, 41, 1049, 1050, 1051] (by decide +kernel)
set_option maxRecDepth 20000 in
theorem tl_TT21 : ∀ w ∈ TT21, w ∈ lw_tbl := g_ix [1052, 1053, 1055, 42, 1056, 1058, 1060, 43, 1061, 1062, 1065, 1066, 1067, 1068, 1069, 1070, 1071, 1073, 44, 1074, 1075, 1076, 1077, 1078] (by decide +kernel)
set_option maxRecDepth 20000 in
theorem tl_TT22 : ∀ w ∈ TT22, w ∈ lw_tbl := g_ix [1079, 1080, 1081, 1082, 1083, 1088, 1090, 45, 1091, 1092, 1094, 46, 1095, 317, 318, 319, 320, 254, 1096, 1097, 1098, 1099, 321, 322] (by decide +kernel)
set_option maxRecDepth 20000 in
theorem tl_TT23 : ∀ w ∈ TT23, w ∈ lw_tbl := g_ix [323, 324, 1100, 1101, 1102, 1103, 331, 332, 333, 334, 1104, 1105, 1106, 1107, 335, 336, 337, 338, 106, 1108, 1109, 1110, 1111, 339] (by decide +kernel)
set_option maxRecDepth 20000 in
theorem tl_TT24 : ∀ w ∈ TT24, w ∈ lw_tbl := g_ix [340, 341, 342, 148, 150, 1112, 1113, 1114, 1115, 343, 344, 345, 346, 301, 347, 348, 349, 350, 155, 156, 1116, 1117, 1118, 1119] (by decide +kernel)
set_option maxRecDepth 20000 in
theorem tl_TT25 : ∀ w ∈ TT25, w ∈ lw_tbl := g_ix [853, 351, 352, 353, 354, 355, 356, 63, 357, 358, 359, 360, 361, 372, 394, 158, 157, 362, 364, 0, 365, 366, 367, 368] (by decide +kernel)
set_option maxRecDepth 20000 in
theorem tl_TT26 : ∀ w ∈ TT26, w ∈ lw_tbl := g_ix [369, 370, 371, 374, 377, 379, 1, 380, 381, 382, 383, 385, 386, 387, 388, 389, 390, 392, 2, 393, 396, 398, 3, 399] (by decide +kernel)
set_option maxRecDepth 20000 in
theorem tl_TT27 : ∀ w ∈ TT27, w ∈ lw_tbl := g_ix [400, 401, 402, 404, 406, 4, 407, 408, 409, 410, 411, 412, 413, 414, 415, 416, 417, 419, 5, 420, 421, 422, 423, 424] (by decide +kernel)
set_option maxRecDepth 20000 in
theorem tl_TT28 : ∀ w ∈ TT28, w ∈ lw_tbl := g_ix [425, 426, 427, 428, 429, 430, 431, 432, 433, 434, 436, 6, 437, 438, 440, 7, 441, 149, 151, 442, 444, 8, 445, 107] (by decide +kernel)
set_option maxRecDepth 20000 in
theorem tl_TT29 : ∀ w ∈ TT29, w ∈ lw_tbl := g_ix [446, 447, 448, 449, 450, 451, 452, 454, 9, 455, 456, 457, 458, 459, 460, 461, 463, 10, 464, 465, 466, 467, 468, 469] (by decide +kernel)
set_option maxRecDepth 20000 in
theorem tl_TT30 : ∀ w ∈ TT30, w ∈ lw_tbl := g_ix [471, 11, 472, 473, 474, 475, 476, 477, 478, 479, 481, 12, 482, 483, 485, 13, 486, 487, 489, 14, 490, 491, 493, 494] (by decide +kernel)
set_option maxRecDepth 20000 in
theorem tl_TT31 : ∀ w ∈ TT31, w ∈ lw_tbl := g_ix [495, 496, 497, 498, 499, 500, 502, 15, 503, 504, 505, 506, 507, 128, 508, 509, 510, 511, 1120, 1121, 1122, 1123, 1124, 1126] (by decide +kernel)
set_option maxRecDepth 20000 in
theorem tl_TT32 : ∀ w ∈ TT32, w ∈ lw_tbl := g_ix [47, 1127, 1128, 1129, 1130, 1131, 1133, 48, 1134, 1135, 1137, 49, 1138, 1139, 1141, 50, 1142, 1143, 1145, 51, 1146, 1147, 1149, 52] (by decide +kernel)
set_option maxRecDepth 20000 in
theorem tl_TT33 : ∀ w ∈ TT33, w ∈ lw_tbl := g_ix [1150, 1151, 1152, 1153, 1154, 1155, 1156, 1157, 1158, 1160, 53, 1161, 1162, 1164, 54, 1165, 1166, 1168, 55, 1169, 1170, 1172, 56, 1173] (by decide +kernel)
set_option maxRecDepth 20000 in
theorem tl_TT34 : ∀ w ∈ TT34, w ∈ lw_tbl := g_ix [1174, 1176, 57, 1177, 1178, 1180, 58, 1181, 1182, 1183, 1184, 1185, 1187, 59, 1188, 1189, 1190, 512, 513, 514, 515, 1191, 1192, 1193] (by decide +kernel)
set_option maxRecDepth 20000 in
theorem tl_TT35 : ∀ w ∈ TT35, w ∈ lw_tbl := g_ix [1194, 516, 517, 518, 519, 143, 520, 1195, 1196, 1197, 1198, 521, 522, 523, 524, 525, 526, 527, 528, 129, 1199, 1200, 1201, 1202] (by decide +kernel)
set_option maxRecDepth 20000 in
theorem tl_TT36 : ∀ w ∈ TT36, w ∈ lw_tbl := g_ix [529, 530, 531, 532, 147, 533, 534, 535, 536, 1203, 1204, 1205, 1206] (by decide +kernel)
set_option maxRecDepth 20000 in
theorem tl_wsX00 : ∀ w ∈ wsX00, w ∈ lw_tbl := g_ix [266, 268, 270, 272, 274, 276, 278, 280, 282, 284, 286, 288, 290, 292, 294] (by decide +kernel)
set_option maxRecDepth 20000 in
theorem tl_wsX20 : ∀ w ∈ wsX20, w ∈ lw_tbl := g_ix [133, 135, 137, 139] (by decide +kernel)
set_option maxRecDepth 20000 in
theorem tl_wsX30 : ∀ w ∈ wsX30, w ∈ lw_tbl := g_ix [217, 219, 221] (by decide +kernel)
set_option maxRecDepth 20000 in
theorem tl_wsX60 : ∀ w ∈ wsX60, w ∈ lw_tbl := g_ix [109, 111] (by decide +kernel)
set_option maxRecDepth 20000 in
theorem tl_wsX70 : ∀ w ∈ wsX70, w ∈ lw_tbl := g_ix [195, 197] (by decide +kernel)
set_option maxRecDepth 20000 in
theorem tl_wsX80 : ∀ w ∈ wsX80, w ∈ lw_tbl := g_ix [159, 161, 163, 165, 167, 169, 171, 173, 175, 177, 179, 181] (by decide +kernel)
set_option maxRecDepth 20000 in
theorem tl_wsX90 : ∀ w ∈ wsX90, w ∈ lw_tbl := g_ix [236, 238, 240, 242, 244] (by decide +kernel)
set_option maxRecDepth 20000 in
theorem tl_wsX100 : ∀ w ∈ wsX100, w ∈ lw_tbl := g_ix [302, 304, 306, 308, 310] (by decide +kernel)
set_option maxRecDepth 20000 in
theorem tl_wsX110 : ∀ w ∈ wsX110, w ∈ lw_tbl := g_ix [882, 884, 886, 888, 890, 892, 894, 896, 898, 900, 902, 904, 906, 908, 910, 912, 914, 916, 918, 920, 922, 924, 926, 928, 930, 932, 934, 936, 938, 940, 942] (by decide +kernel)
theorem tl_TT : ∀ w ∈ TT, w ∈ lw_tbl := by
  unfold TT
  exact List.forall_mem_append.mpr ⟨tl_TT0, List.forall_mem_append.mpr ⟨tl_TT1, List.forall_mem_append.mpr ⟨tl_TT2, List.forall_mem_append.mpr ⟨tl_TT3, List.forall_mem_append.mpr ⟨tl_TT4, List.forall_mem_append.mpr ⟨tl_TT5, List.forall_mem_append.mpr ⟨tl_TT6, List.forall_mem_append.mpr ⟨tl_TT7, List.forall_mem_append.mpr ⟨tl_TT8, List.forall_mem_append.mpr ⟨tl_TT9, List.forall_mem_append.mpr ⟨tl_TT10, List.forall_mem_append.mpr ⟨tl_TT11, List.forall_mem_append.mpr ⟨tl_TT12, List.forall_mem_append.mpr ⟨tl_TT13, List.forall_mem_append.mpr ⟨tl_TT14, List.forall_mem_append.mpr ⟨tl_TT15, List.forall_mem_append.mpr ⟨tl_TT16, List.forall_mem_append.mpr ⟨tl_TT17, List.forall_mem_append.mpr ⟨tl_TT18, List.forall_mem_append.mpr ⟨tl_TT19, List.forall_mem_append.mpr ⟨tl_TT20, List.forall_mem_append.mpr ⟨tl_TT21, List.forall_mem_append.mpr ⟨tl_TT22, List.forall_mem_append.mpr ⟨tl_TT23, List.forall_mem_append.mpr ⟨tl_TT24, List.forall_mem_append.mpr ⟨tl_TT25, List.forall_mem_append.mpr ⟨tl_TT26, List.forall_mem_append.mpr ⟨tl_TT27, List.forall_mem_append.mpr ⟨tl_TT28, List.forall_mem_append.mpr ⟨tl_TT29, List.forall_mem_append.mpr ⟨tl_TT30, List.forall_mem_append.mpr ⟨tl_TT31, List.forall_mem_append.mpr ⟨tl_TT32, List.forall_mem_append.mpr ⟨tl_TT33, List.forall_mem_append.mpr ⟨tl_TT34, List.forall_mem_append.mpr ⟨tl_TT35, List.forall_mem_append.mpr ⟨tl_TT36, List.forall_mem_append.mpr ⟨tl_wsX00, List.forall_mem_append.mpr ⟨tl_wsX20, List.forall_mem_append.mpr ⟨tl_wsX30, List.forall_mem_append.mpr ⟨tl_wsX60, List.forall_mem_append.mpr ⟨tl_wsX70, List.forall_mem_append.mpr ⟨tl_wsX80, List.forall_mem_append.mpr ⟨tl_wsX90, List.forall_mem_append.mpr ⟨tl_wsX100, tl_wsX110⟩⟩⟩⟩⟩⟩⟩⟩⟩⟩⟩⟩⟩⟩⟩⟩⟩⟩⟩⟩⟩⟩⟩⟩⟩⟩⟩⟩⟩⟩⟩⟩⟩⟩⟩⟩⟩⟩⟩⟩⟩⟩⟩⟩⟩
set_option maxRecDepth 20000 in
theorem tl_nn : ∀ w ∈ g_nn, w ∈ lw_tbl := g_ix [124, 186, 209, 384, 724] (by decide +kernel)
set_option maxRecDepth 20000 in
theorem tl_xn : ∀ w ∈ g_xn, w ∈ lw_tbl := g_ix [559, 561, 563, 558, 621, 648] (by decide +kernel)
set_option maxRecDepth 20000 in
theorem tl_xg : ∀ w ∈ g_xg, w ∈ lw_tbl := g_ix [71, 578, 587, 591, 594, 596, 579, 580, 91, 92, 581, 586, 592, 608, 568, 609, 570, 610, 572, 582, 584, 574, 598, 599, 600, 601, 601, 602, 603, 604, 604, 605, 606, 579, 597, 557, 565, 566, 567, 569, 571, 573, 577, 576, 575, 71, 578, 587, 591, 594, 596, 579, 580, 91, 92, 581, 586, 592, 608, 568, 609, 570, 610, 572, 582, 584, 574, 629, 630, 631, 601, 601, 602, 603, 604, 604, 605, 606, 579, 628, 620, 622, 589, 623, 624, 625, 626, 577, 576, 627, 71, 578, 587, 591, 594, 596, 579, 580, 91, 92, 581, 586, 592, 608, 568, 609, 570, 610, 572, 582, 584, 574, 656, 657, 658, 601, 601, 602, 603, 604, 604, 605, 606, 579, 655, 647, 649, 590, 650, 651, 652, 653, 577, 576, 654] (by decide +kernel)
