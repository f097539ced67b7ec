theorem g_ix {big ws : List Cond} (ps : List Nat) (hp : ws = ps.filterMap (fun i => big[i]?)) : ∀ w ∈ ws, w ∈ big := by
  intro w hw
  rw [hp] at hw
  obtain ⟨i, -, hi⟩ := List.mem_filterMap.mp hw
  exact List.mem_of_getElem? hi
set_option maxRecDepth 20000 in
theorem tl_TT0 : ∀ w ∈ TT0, w ∈ lw_tbl := g_ix [85, 86, 61, 848, 849, 70, 224, 1210, 540, 541, 60, 542, 87, 88, 89, 90, 91, 92, 93, 94, 62, 95, 96, 63] (by decide +kernel)
set_option maxRecDepth 20000 in
theorem tl_TT1 : ∀ w ∈ TT1, w ∈ lw_tbl := g_ix [97, 98, 99, 100, 300, 115, 301, 117, 64, 184, 185, 66, 302, 201, 202, 67, 303, 101, 102, 103, 104, 114, 105, 108] (by decide +kernel)
set_option maxRecDepth 20000 in
theorem tl_TT2 : ∀ w ∈ TT2, w ∈ lw_tbl := g_ix [118, 119, 120, 121, 142, 144, 122, 123, 65, 146, 153, 154, 152, 125, 126, 127, 130, 131, 132, 187, 188, 189, 200, 190] (by decide +kernel)
set_option maxRecDepth 20000 in
theorem tl_TT3 : ∀ w ∈ TT3, w ∈ lw_tbl := g_ix [204, 205, 206, 250, 258, 259, 207, 208, 68, 260, 225, 226, 69, 261, 210, 211, 212, 215, 216, 228, 229, 230, 231, 232] (by decide +kernel)
set_option maxRecDepth 20000 in
theorem tl_TT4 : ∀ w ∈ TT4, w ∈ lw_tbl := g_ix [850, 851, 852, 853, 857, 868, 869, 870, 871, 872, 873, 874, 875, 876, 877, 878, 879, 880, 881, 882, 883, 884, 855, 543] (by decide +kernel)
set_option maxRecDepth 20000 in
theorem tl_TT5 : ∀ w ∈ TT5, w ∈ lw_tbl := g_ix [544, 545, 546, 547, 548, 549, 550, 551, 559, 74, 622, 75, 192, 552, 553, 554, 555, 556, 557, 558, 637, 638, 639, 640] (by decide +kernel)
set_option maxRecDepth 20000 in
theorem tl_TT6 : ∀ w ∈ TT6, w ∈ lw_tbl := g_ix [193, 952, 953, 954, 955, 956, 858, 854, 957, 958, 959, 960, 961, 962, 948, 949, 950, 951, 316, 317, 318, 319, 963, 964] (by decide +kernel)
set_option maxRecDepth 20000 in
theorem tl_TT7 : ∀ w ∈ TT7, w ∈ lw_tbl := g_ix [965, 966, 641, 642, 643, 644, 645, 646, 647, 648, 649, 76, 255, 251, 145, 253, 845, 847, 846, 82, 328, 329, 330, 331] (by decide +kernel)
set_option maxRecDepth 20000 in
theorem tl_TT8 : ∀ w ∈ TT8, w ∈ lw_tbl := g_ix [332, 333, 664, 665, 666, 667, 262, 252, 214, 254, 256, 668, 669, 670, 671, 191, 234, 194, 235, 233, 236, 672, 673, 674] (by decide +kernel)
set_option maxRecDepth 20000 in
theorem tl_TT9 : ∀ w ∈ TT9, w ∈ lw_tbl := g_ix [675, 677, 17, 678, 679, 680, 681, 682, 683, 684, 685, 687, 18, 688, 695, 689, 691, 19, 692, 693, 694, 696, 698, 20] (by decide +kernel)
set_option maxRecDepth 20000 in
theorem tl_TT10 : ∀ w ∈ TT10, w ∈ lw_tbl := g_ix [699, 700, 702, 21, 703, 704, 706, 22, 707, 708, 709, 710, 711, 712, 714, 23, 715, 263, 264, 265, 266, 267, 268, 716] (by decide +kernel)
set_option maxRecDepth 20000 in
theorem tl_TT11 : ∀ w ∈ TT11, w ∈ lw_tbl := g_ix [717, 718, 719, 720, 721, 722, 723, 724, 725, 726, 1212, 729, 731, 24, 732, 1213, 1214, 733, 734, 735, 77, 736, 1215, 737] (by decide +kernel)
set_option maxRecDepth 20000 in
theorem tl_TT12 : ∀ w ∈ TT12, w ∈ lw_tbl := g_ix [738, 739, 740, 741, 1216, 743, 744, 745, 746, 747, 748, 749, 750, 751, 752, 78, 753, 754, 755, 756, 757, 759, 760, 79] (by decide +kernel)
set_option maxRecDepth 20000 in
theorem tl_TT13 : ∀ w ∈ TT13, w ∈ lw_tbl := g_ix [761, 762, 763, 80, 764, 765, 766, 767, 768, 769, 770, 771, 772, 773, 774, 775, 777, 779, 781, 783, 25, 784, 785, 786] (by decide +kernel)
set_option maxRecDepth 20000 in
theorem tl_TT14 : ∀ w ∈ TT14, w ∈ lw_tbl := g_ix [787, 788, 790, 26, 791, 792, 793, 801, 802, 803, 804, 805, 810, 811, 815, 816, 794, 796, 27, 797, 798, 799, 81, 800] (by decide +kernel)
set_option maxRecDepth 20000 in
theorem tl_TT15 : ∀ w ∈ TT15, w ∈ lw_tbl := g_ix [806, 808, 28, 809, 812, 813, 814, 817, 818, 819, 406, 820, 822, 29, 823, 824, 825, 826, 827, 213, 828, 830, 30, 831] (by decide +kernel)
set_option maxRecDepth 20000 in
theorem tl_TT16 : ∀ w ∈ TT16, w ∈ lw_tbl := g_ix [832, 834, 31, 835, 836, 837, 838, 839, 840, 842, 32, 843, 844, 378, 379, 967, 968, 969, 970, 859, 862, 863, 864, 865] (by decide +kernel)
set_option maxRecDepth 20000 in
theorem tl_TT17 : ∀ w ∈ TT17, w ∈ lw_tbl := g_ix [860, 861, 971, 973, 33, 974, 975, 977, 34, 978, 866, 867, 979, 981, 35, 982, 983, 985, 36, 986, 987, 989, 37, 990] (by decide +kernel)
set_option maxRecDepth 20000 in
theorem tl_TT18 : ∀ w ∈ TT18, w ∈ lw_tbl := g_ix [991, 992, 993, 994, 996, 38, 997, 998, 999, 1000, 1001, 1002, 1003, 1004, 1005, 1006, 1007, 1008, 1009, 1010, 1011, 1012, 1013, 1014] (by decide +kernel)
set_option maxRecDepth 20000 in
theorem tl_TT19 : ∀ w ∈ TT19, w ∈ lw_tbl := g_ix [1015, 1016, 1017, 1018, 1019, 1020, 1021, 1022, 1023, 1024, 1025, 1026, 1027, 1028, 1029, 1030, 1031, 1032, 1033, 1034, 1035, 1036, 1037, 1038] (by decide +kernel)
set_option maxRecDepth 20000 in
theorem tl_TT20 : ∀ w ∈ TT20, w ∈ lw_tbl := g_ix [1039, 1040, 1041, 1043, 39, 1044, 1060, 1066, 1067, 1087, 1088, 1089, 1090, 1045, 1047, 40, 1048, 1049, 1051, 41, 1052, 1053, 1054, 1055] (by decide +kernel)
set_option maxRecDepth 20000 in
theorem tl_TT21 : ∀ w ∈ TT21, w ∈ lw_tbl := g_ix [1056, 1058, 42, 1059, 1061, 1063, 43, 1064, 1065, 1068, 1069, 1070, 1071, 1072, 1073, 1074, 1076, 44, 1077, 1078, 1079, 1080, 1081, 1082] (by decide +kernel)
set_option maxRecDepth 20000 in
theorem tl_TT22 : ∀ w ∈ TT22, w ∈ lw_tbl := g_ix [1083, 1084, 1085, 1086, 1091, 1093, 45, 1094, 1095, 1097, 46, 1098, 320, 321, 322, 323, 257, 1099, 1100, 1101, 1102, 324, 325, 326] (by decide +kernel)
set_option maxRecDepth 20000 in
theorem tl_TT23 : ∀ w ∈ TT23, w ∈ lw_tbl := g_ix [327, 1103, 1104, 1105, 1106, 334, 335, 336, 337, 1107, 1108, 1109, 1110, 338, 339, 340, 341, 106, 1111, 1112, 1113, 1114, 342, 343] (by decide +kernel)
set_option maxRecDepth 20000 in
theorem tl_TT24 : ∀ w ∈ TT24, w ∈ lw_tbl := g_ix [344, 345, 148, 150, 1115, 1116, 1117, 1118, 346, 347, 348, 349, 304, 350, 351, 352, 353, 155, 156, 1119, 1120, 1121, 1122, 856] (by decide +kernel)
set_option maxRecDepth 20000 in
theorem tl_TT25 : ∀ w ∈ TT25, w ∈ lw_tbl := g_ix [354, 355, 356, 357, 358, 359, 63, 360, 361, 362, 363, 364, 375, 397, 158, 157, 365, 367, 0, 368, 369, 370, 371, 372] (by decide +kernel)
set_option maxRecDepth 20000 in
theorem tl_TT26 : ∀ w ∈ TT26, w ∈ lw_tbl := g_ix [373, 374, 377, 380, 382, 1, 383, 384, 385, 386, 388, 389, 390, 391, 392, 393, 395, 2, 396, 399, 401, 3, 402, 403] (by decide +kernel)
set_option maxRecDepth 20000 in
theorem tl_TT27 : ∀ w ∈ TT27, w ∈ lw_tbl := g_ix [404, 405, 407, 409, 4, 410, 411, 412, 413, 414, 415, 416, 417, 418, 419, 420, 422, 5, 423, 424, 425, 426, 427, 428] (by decide +kernel)
set_option maxRecDepth 20000 in
theorem tl_TT28 : ∀ w ∈ TT28, w ∈ lw_tbl := g_ix [429, 430, 431, 432, 433, 434, 435, 436, 437, 439, 6, 440, 441, 443, 7, 444, 149, 151, 445, 447, 8, 448, 107, 449] (by decide +kernel)
set_option maxRecDepth 20000 in
theorem tl_TT29 : ∀ w ∈ TT29, w ∈ lw_tbl := g_ix [450, 451, 452, 453, 454, 455, 457, 9, 458, 459, 460, 461, 462, 463, 464, 466, 10, 467, 468, 469, 470, 471, 472, 474] (by decide +kernel)
set_option maxRecDepth 20000 in
theorem tl_TT30 : ∀ w ∈ TT30, w ∈ lw_tbl := g_ix [11, 475, 476, 477, 478, 479, 480, 481, 482, 484, 12, 485, 486, 488, 13, 489, 490, 492, 14, 493, 494, 496, 497, 498] (by decide +kernel)
set_option maxRecDepth 20000 in
theorem tl_TT31 : ∀ w ∈ TT31, w ∈ lw_tbl := g_ix [499, 500, 501, 502, 503, 505, 15, 506, 507, 508, 509, 510, 128, 511, 512, 513, 514, 1123, 1124, 1125, 1126, 1127, 1129, 47] (by decide +kernel)
set_option maxRecDepth 20000 in
theorem tl_TT32 : ∀ w ∈ TT32, w ∈ lw_tbl := g_ix [1130, 1131, 1132, 1133, 1134, 1136, 48, 1137, 1138, 1140, 49, 1141, 1142, 1144, 50, 1145, 1146, 1148, 51, 1149, 1150, 1152, 52, 1153] (by decide +kernel)
set_option maxRecDepth 20000 in
theorem tl_TT33 : ∀ w ∈ TT33, w ∈ lw_tbl := g_ix [1154, 1155, 1156, 1157, 1158, 1159, 1160, 1161, 1163, 53, 1164, 1165, 1167, 54, 1168, 1169, 1171, 55, 1172, 1173, 1175, 56, 1176, 1177] (by decide +kernel)
set_option maxRecDepth 20000 in
theorem tl_TT34 : ∀ w ∈ TT34, w ∈ lw_tbl := g_ix [1179, 57, 1180, 1181, 1183, 58, 1184, 1185, 1186, 1187, 1188, 1190, 59, 1191, 1192, 1193, 515, 516, 517, 518, 1194, 1195, 1196, 1197] (by decide +kernel)
set_option maxRecDepth 20000 in
theorem tl_TT35 : ∀ w ∈ TT35, w ∈ lw_tbl := g_ix [519, 520, 521, 522, 143, 523, 1198, 1199, 1200, 1201, 524, 525, 526, 527, 528, 529, 530, 531, 129, 1202, 1203, 1204, 1205, 532] (by decide +kernel)
set_option maxRecDepth 20000 in
theorem tl_TT36 : ∀ w ∈ TT36, w ∈ lw_tbl := g_ix [533, 534, 535, 147, 536, 537, 538, 539, 1206, 1207, 1208, 1209] (by decide +kernel)
set_option maxRecDepth 20000 in
theorem tl_wsX00 : ∀ w ∈ wsX00, w ∈ lw_tbl := g_ix [269, 271, 273, 275, 277, 279, 281, 283, 285, 287, 289, 291, 293, 295, 297] (by decide +kernel)
set_option maxRecDepth 20000 in
theorem tl_wsX20 : ∀ w ∈ wsX20, w ∈ lw_tbl := g_ix [133, 135, 137, 139] (by decide +kernel)
set_option maxRecDepth 20000 in
theorem tl_wsX30 : ∀ w ∈ wsX30, w ∈ lw_tbl := g_ix [217, 219, 221] (by decide +kernel)
set_option maxRecDepth 20000 in
theorem tl_wsX60 : ∀ w ∈ wsX60, w ∈ lw_tbl := g_ix [109, 111] (by decide +kernel)
set_option maxRecDepth 20000 in
theorem tl_wsX70 : ∀ w ∈ wsX70, w ∈ lw_tbl := g_ix [195, 197] (by decide +kernel)
set_option maxRecDepth 20000 in
theorem tl_wsX80 : ∀ w ∈ wsX80, w ∈ lw_tbl := g_ix [159, 161, 163, 165, 167, 169, 171, 173, 175, 177, 179, 181] (by decide +kernel)
set_option maxRecDepth 20000 in
theorem tl_wsX90 : ∀ w ∈ wsX90, w ∈ lw_tbl := g_ix [237, 239, 241, 243, 245, 247] (by decide +kernel)
set_option maxRecDepth 20000 in
theorem tl_wsX100 : ∀ w ∈ wsX100, w ∈ lw_tbl := g_ix [305, 307, 309, 311, 313] (by decide +kernel)
set_option maxRecDepth 20000 in
theorem tl_wsX110 : ∀ w ∈ wsX110, w ∈ lw_tbl := g_ix [885, 887, 889, 891, 893, 895, 897, 899, 901, 903, 905, 907, 909, 911, 913, 915, 917, 919, 921, 923, 925, 927, 929, 931, 933, 935, 937, 939, 941, 943, 945] (by decide +kernel)
theorem tl_TT : ∀ w ∈ TT, w ∈ lw_tbl := by
  unfold TT
  exact List.forall_mem_append.mpr ⟨tl_TT0, List.forall_mem_append.mpr ⟨tl_TT1, List.forall_mem_append.mpr ⟨tl_TT2, List.forall_mem_append.mpr ⟨tl_TT3, List.forall_mem_append.mpr ⟨tl_TT4, List.forall_mem_append.mpr ⟨tl_TT5, List.forall_mem_append.mpr ⟨tl_TT6, List.forall_mem_append.mpr ⟨tl_TT7, List.forall_mem_append.mpr ⟨tl_TT8, List.forall_mem_append.mpr ⟨tl_TT9, List.forall_mem_append.mpr ⟨tl_TT10, List.forall_mem_append.mpr ⟨tl_TT11, List.forall_mem_append.mpr ⟨tl_TT12, List.forall_mem_append.mpr ⟨tl_TT13, List.forall_mem_append.mpr ⟨tl_TT14, List.forall_mem_append.mpr ⟨tl_TT15, List.forall_mem_append.mpr ⟨tl_TT16, List.forall_mem_append.mpr ⟨tl_TT17, List.forall_mem_append.mpr ⟨tl_TT18, List.forall_mem_append.mpr ⟨tl_TT19, List.forall_mem_append.mpr ⟨tl_TT20, List.forall_mem_append.mpr ⟨tl_TT21, List.forall_mem_append.mpr ⟨tl_TT22, List.forall_mem_append.mpr ⟨tl_TT23, List.forall_mem_append.mpr ⟨tl_TT24, List.forall_mem_append.mpr ⟨tl_TT25, List.forall_mem_append.mpr ⟨tl_TT26, List.forall_mem_append.mpr ⟨tl_TT27, List.forall_mem_append.mpr ⟨tl_TT28, List.forall_mem_append.mpr ⟨tl_TT29, List.forall_mem_append.mpr ⟨tl_TT30, List.forall_mem_append.mpr ⟨tl_TT31, List.forall_mem_append.mpr ⟨tl_TT32, List.forall_mem_append.mpr ⟨tl_TT33, List.forall_mem_append.mpr ⟨tl_TT34, List.forall_mem_append.mpr ⟨tl_TT35, List.forall_mem_append.mpr ⟨tl_TT36, List.forall_mem_append.mpr ⟨tl_wsX00, List.forall_mem_append.mpr ⟨tl_wsX20, List.forall_mem_append.mpr ⟨tl_wsX30, List.forall_mem_append.mpr ⟨tl_wsX60, List.forall_mem_append.mpr ⟨tl_wsX70, List.forall_mem_append.mpr ⟨tl_wsX80, List.forall_mem_append.mpr ⟨tl_wsX90, List.forall_mem_append.mpr ⟨tl_wsX100, tl_wsX110⟩⟩⟩⟩⟩⟩⟩⟩⟩⟩⟩⟩⟩⟩⟩⟩⟩⟩⟩⟩⟩⟩⟩⟩⟩⟩⟩⟩⟩⟩⟩⟩⟩⟩⟩⟩⟩⟩⟩⟩⟩⟩⟩⟩⟩
set_option maxRecDepth 20000 in
theorem tl_nn : ∀ w ∈ g_nn, w ∈ lw_tbl := g_ix [124, 186, 203, 209, 227, 387, 727] (by decide +kernel)
set_option maxRecDepth 20000 in
theorem tl_xn : ∀ w ∈ g_xn, w ∈ lw_tbl := g_ix [562, 564, 566, 561, 624, 651] (by decide +kernel)
set_option maxRecDepth 20000 in
theorem tl_xg : ∀ w ∈ g_xg, w ∈ lw_tbl := g_ix [71, 581, 590, 594, 597, 599, 582, 583, 91, 92, 584, 589, 595, 611, 571, 612, 573, 613, 575, 585, 587, 577, 601, 602, 603, 604, 604, 605, 606, 607, 607, 608, 609, 582, 600, 560, 568, 569, 570, 572, 574, 576, 580, 579, 578, 71, 581, 590, 594, 597, 599, 582, 583, 91, 92, 584, 589, 595, 611, 571, 612, 573, 613, 575, 585, 587, 577, 632, 633, 634, 604, 604, 605, 606, 607, 607, 608, 609, 582, 631, 623, 625, 592, 626, 627, 628, 629, 580, 579, 630, 71, 581, 590, 594, 597, 599, 582, 583, 91, 92, 584, 589, 595, 611, 571, 612, 573, 613, 575, 585, 587, 577, 659, 660, 661, 604, 604, 605, 606, 607, 607, 608, 609, 582, 658, 650, 652, 593, 653, 654, 655, 656, 580, 579, 657] (by decide +kernel)
