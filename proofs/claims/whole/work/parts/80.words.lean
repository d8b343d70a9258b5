set_option maxRecDepth 100000 in
theorem mem_by {ws big : List Cond} (ix : List Nat) (h : ix.map (fun i => big[i]?) = ws.map some) : ∀ w ∈ ws, w ∈ big := by
  intro w hw
  have h1 : some w ∈ ix.map (fun i => big[i]?) := by rw [h]; exact List.mem_map.mpr ⟨w, hw, rfl⟩
  obtain ⟨i, -, hi⟩ := List.mem_map.mp h1
  exact List.mem_of_getElem? hi
set_option maxRecDepth 100000 in
theorem wl_0 : ∀ w ∈ u_ws "StandInMill" F_M 18, w ∈ lw_tbl := mem_by [254, 256, 258, 260, 262, 264, 266, 268, 270, 272, 274, 276, 278, 280, 282, 284, 286, 288] rfl
set_option maxRecDepth 100000 in
theorem wl_1 : ∀ w ∈ u_ws "StandInMill$ClassRow" F_Rw 2, w ∈ lw_tbl := mem_by [143, 145] rfl
set_option maxRecDepth 100000 in
theorem wl_2 : ∀ w ∈ u_ws "StandInMill$Draft" F_Dr 4, w ∈ lw_tbl := mem_by [154, 156, 158, 160] rfl
set_option maxRecDepth 100000 in
theorem wl_3 : ∀ w ∈ u_ws "StandInMill$Face" F_Fc 10, w ∈ lw_tbl := mem_by [352, 354, 356, 358, 360, 362, 364, 366, 368, 370] rfl
set_option maxRecDepth 100000 in
theorem wl_4 : ∀ w ∈ u_ws "StandInMill$OwnMethod" F_Om 6, w ∈ lw_tbl := mem_by [220, 222, 224, 226, 228, 230] rfl
set_option maxRecDepth 100000 in
theorem wl_5 : ∀ w ∈ u_ws "StandInMill$StandIn" F_Si 8, w ∈ lw_tbl := mem_by [773, 775, 777, 779, 781, 783, 785, 787] rfl
set_option maxRecDepth 100000 in
theorem wl_6 : ∀ w ∈ u_ws "StandInMill$StandMethod" F_Sm 3, w ∈ lw_tbl := mem_by [696, 698, 700] rfl
set_option maxRecDepth 100000 in
theorem wl_7 : ∀ w ∈ u_ws "StandInMill$Types" F_Ty 2, w ∈ lw_tbl := mem_by [110, 112] rfl
set_option maxRecDepth 100000 in
theorem wl_8 : ∀ w ∈ u_ws "StandInMill$UnitWriter" F_Uw 6, w ∈ lw_tbl := mem_by [175, 177, 179, 181, 183, 185] rfl
set_option maxRecDepth 100000 in
theorem wl_9 : ∀ w ∈ u_ws "StandInMillModel" F_R 47, w ∈ lw_tbl := mem_by [963, 965, 967, 969, 971, 973, 975, 977, 979, 981, 983, 985, 987, 989, 991, 993, 995, 997, 999, 1001, 1003, 1005, 1007, 1009, 1011, 1013, 1015, 1017, 1019, 1021, 1023, 1025, 1027, 1029, 1031, 1033, 1035, 1037, 1039, 1041, 1043, 1045, 1047, 1049, 1051, 1053, 1055] rfl
set_option maxRecDepth 100000 in
theorem wl_10 : ∀ w ∈ wc_0, w ∈ lw_tbl := mem_by [104, 97, 98, 115, 108, 109, 105, 106, 135, 148, 136, 127, 128, 150, 130, 131, 77, 132, 133, 153, 149, 168, 169, 188, 171, 173, 194, 195, 196, 217, 197, 201, 205, 209, 213, 96, 99, 100, 75, 101] rfl
set_option maxRecDepth 100000 in
theorem wl_11 : ∀ w ∈ wc_1, w ∈ lw_tbl := mem_by [102, 236, 237, 116, 239, 241, 242, 118, 244, 120, 245, 122, 123, 76, 124, 125, 247, 163, 164, 78, 166, 248, 189, 251, 252, 253, 238, 190, 79, 191, 192, 233, 234, 299, 300, 295, 297, 0, 310, 311] rfl
set_option maxRecDepth 100000 in
theorem wl_12 : ∀ w ∈ wc_2, w ∈ lw_tbl := mem_by [312, 306, 307, 308, 240, 322, 324, 2, 330, 340, 331, 344, 348, 332, 334, 336, 338, 318, 320, 1, 326, 82, 327, 328, 373, 374, 375, 342, 401, 402, 403, 246, 381, 383, 3, 385, 386, 387, 389, 391] rfl
set_option maxRecDepth 100000 in
theorem wl_13 : ∀ w ∈ wc_3, w ∈ lw_tbl := mem_by [4, 393, 394, 395, 397, 398, 399, 249, 413, 414, 425, 420, 421, 422, 431, 432, 346, 410, 411, 416, 418, 5, 427, 429, 6, 434, 435, 436, 438, 439, 440, 138, 455, 448, 449, 446, 447, 451, 452, 453] rfl
set_option maxRecDepth 100000 in
theorem wl_14 : ∀ w ∈ wc_4, w ∈ lw_tbl := mem_by [243, 460, 461, 463, 464, 474, 614, 616, 14, 603, 605, 12, 607, 608, 610, 612, 13, 350, 630, 632, 17, 638, 626, 627, 628, 634, 635, 636, 151, 659, 660, 661, 663, 669, 670, 671, 673, 655, 656, 657] rfl
set_option maxRecDepth 100000 in
theorem wl_15 : ∀ w ∈ wc_5, w ∈ lw_tbl := mem_by [664, 665, 666, 667, 682, 683, 684, 688, 692, 678, 87, 680, 647, 648, 649, 651, 653, 18, 674, 676, 19, 639, 640, 641, 643, 644, 645, 622, 624, 16, 724, 720, 722, 23, 711, 713, 21, 715, 717, 22] rfl
set_option maxRecDepth 100000 in
theorem wl_16 : ∀ w ∈ wc_6, w ∈ lw_tbl := mem_by [707, 708, 709, 753, 770, 755, 757, 760, 763, 754, 766, 798, 799, 800, 496, 497, 801, 802, 803, 804, 794, 796, 26, 745, 89, 746, 748, 25, 750, 751, 790, 791, 792, 174, 172, 813, 815, 27, 170, 831] rfl
set_option maxRecDepth 100000 in
theorem wl_17 : ∀ w ∈ wc_7, w ∈ lw_tbl := mem_by [833, 31, 827, 829, 30, 823, 825, 29, 843, 852, 853, 854, 848, 850, 35, 857, 859, 36, 862, 864, 37, 817, 819, 28, 839, 841, 33, 844, 846, 34, 870, 872, 871, 90, 810, 811, 835, 837, 32, 866] rfl
set_option maxRecDepth 100000 in
theorem wl_18 : ∀ w ∈ wc_8, w ∈ lw_tbl := mem_by [868, 38, 250, 525, 527, 8, 595, 597, 10, 599, 601, 11, 741, 743, 24, 806, 807, 808, 618, 620, 15, 703, 705, 20, 529, 530, 86, 725, 726, 88, 491, 493, 7, 495, 885, 886, 887, 889, 40, 896] rfl
set_option maxRecDepth 100000 in
theorem wl_19 : ∀ w ∈ wc_9, w ∈ lw_tbl := mem_by [898, 42, 904, 881, 883, 39, 892, 894, 41, 905, 907, 44, 900, 902, 43, 914, 916, 917, 918, 919, 920, 921, 922, 923, 924, 1058, 925, 926, 927, 928, 929, 930, 931, 932, 933, 934, 935, 936, 937, 938] rfl
set_option maxRecDepth 100000 in
theorem wl_20 : ∀ w ∈ wc_10, w ∈ lw_tbl := mem_by [939, 940, 941, 942, 943, 944, 945, 946, 947, 948, 949, 950, 951, 952, 953, 954, 955, 956, 957, 958, 915, 959, 960, 961, 962, 1107, 1108, 1071, 1073, 45, 1091, 1093, 48, 1110, 1111, 1103, 1105, 50, 1083, 1085] rfl
set_option maxRecDepth 100000 in
theorem wl_21 : ∀ w ∈ wc_11, w ∈ lw_tbl := mem_by [47, 1079, 1081, 46, 1113, 1115, 51, 1136, 1138, 52, 1172, 1174, 59, 1160, 1162, 56, 1164, 1166, 57, 1168, 1170, 58, 1095, 1097, 49, 1156, 1158, 55, 1176, 1178, 60, 1196, 1198, 63, 1216, 1217, 1219, 1220, 1200, 1202] rfl
set_option maxRecDepth 100000 in
theorem wl_22 : ∀ w ∈ wc_12, w ∈ lw_tbl := mem_by [64, 1208, 1210, 66, 1212, 1214, 67, 1222, 1224, 68, 1204, 1206, 65, 1125, 1126, 1148, 1150, 53, 1152, 1154, 54, 1188, 1190, 61, 1192, 1194, 62, 1226, 1228, 69, 1238, 1240, 70, 1254, 1256, 72, 1250, 1252, 71, 521] rfl
set_option maxRecDepth 100000 in
theorem wl_23 : ∀ w ∈ wc_13, w ∈ lw_tbl := mem_by [522, 523, 519, 520, 518, 517, 73, 876, 877, 878, 875, 874, 91, 92, 74, 93, 94, 909, 910, 81, 911, 912, 291, 292, 293, 1063, 1064, 1065, 302, 303, 304, 1067, 1068, 1069, 314, 315, 316, 1075, 1076, 1077] rfl
set_option maxRecDepth 100000 in
theorem wl_24 : ∀ w ∈ wc_14, w ∈ lw_tbl := mem_by [377, 378, 379, 1087, 1088, 1089, 406, 407, 408, 1099, 1100, 1101, 442, 443, 444, 1117, 1118, 1119, 1266, 456, 457, 458, 1121, 1122, 1123, 466, 467, 468, 1128, 1129, 1130, 470, 471, 472, 1132, 1133, 1134, 475, 476, 477] rfl
set_option maxRecDepth 100000 in
theorem wl_25 : ∀ w ∈ wc_15, w ∈ lw_tbl := mem_by [1140, 1141, 1142, 516, 1144, 1145, 1146, 1059, 1060, 1061, 479, 480, 481, 1180, 1181, 1182, 483, 484, 485, 1184, 1185, 1186, 487, 488, 489, 1230, 1231, 1232, 500, 501, 502, 1234, 1235, 1236, 504, 505, 506, 1242, 1243, 1244] rfl
set_option maxRecDepth 100000 in
theorem wl_26 : ∀ w ∈ wc_16, w ∈ lw_tbl := mem_by [873, 1246, 1247, 1248, 508, 509, 510, 1258, 1259, 1260, 512, 513, 514, 1262, 1263, 1264, 107, 103, 134, 126, 167, 193, 235, 80, 95, 301, 298, 294, 313, 309, 305, 325, 321, 329, 376, 317, 384, 388, 392, 396] rfl
set_option maxRecDepth 100000 in
theorem wl_27 : ∀ w ∈ wc_17, w ∈ lw_tbl := mem_by [404, 400, 380, 415, 412, 426, 423, 419, 433, 430, 437, 441, 409, 450, 454, 445, 462, 465, 459, 469, 473, 478, 528, 598, 606, 609, 617, 613, 602, 633, 629, 637, 625, 642, 650, 662, 658, 672, 668, 654] rfl
set_option maxRecDepth 100000 in
theorem wl_28 : ∀ w ∈ wc_18, w ∈ lw_tbl := mem_by [681, 677, 646, 621, 714, 723, 718, 710, 706, 749, 752, 498, 805, 797, 793, 744, 812, 816, 834, 830, 826, 820, 842, 851, 855, 860, 865, 847, 838, 869, 809, 524, 482, 486, 494, 490, 503, 507, 890, 884] rfl
set_option maxRecDepth 100000 in
theorem wl_29 : ∀ w ∈ wc_19, w ∈ lw_tbl := mem_by [899, 895, 903, 908, 879, 511, 515, 913, 1074, 1094, 1109, 1112, 1106, 1139, 1127, 1086, 1082, 1098, 1116, 1211, 1163, 1167, 1175, 1171, 1159, 1179, 1155, 1225, 1199, 1203, 1218, 1221, 1215, 1207, 1195, 1229, 1241, 1062, 1066, 1070] rfl
set_option maxRecDepth 100000 in
theorem wl_30 : ∀ w ∈ wc_20, w ∈ lw_tbl := mem_by [1078, 1090, 1102, 1120, 1124, 1131, 1135, 1143, 1151, 1147, 1183, 1191, 1187, 1233, 1237, 1245, 1253, 1257, 1249, 1261, 1265] rfl
set_option maxRecDepth 100000 in
theorem WG_in : ∀ w ∈ WG, w ∈ lw_tbl := by
  intro w hw
  obtain ⟨l, hl, hw⟩ := List.mem_flatten.mp hw
  simp only [WL, List.mem_cons, List.not_mem_nil, or_false] at hl
  rcases hl with rfl | rfl | rfl | rfl | rfl | rfl | rfl | rfl | rfl | rfl | rfl | rfl | rfl | rfl | rfl | rfl | rfl | rfl | rfl | rfl | rfl | rfl | rfl | rfl | rfl | rfl | rfl | rfl | rfl | rfl | rfl
  · exact wl_0 w hw
  · exact wl_1 w hw
  · exact wl_2 w hw
  · exact wl_3 w hw
  · exact wl_4 w hw
  · exact wl_5 w hw
  · exact wl_6 w hw
  · exact wl_7 w hw
  · exact wl_8 w hw
  · exact wl_9 w hw
  · exact wl_10 w hw
  · exact wl_11 w hw
  · exact wl_12 w hw
  · exact wl_13 w hw
  · exact wl_14 w hw
  · exact wl_15 w hw
  · exact wl_16 w hw
  · exact wl_17 w hw
  · exact wl_18 w hw
  · exact wl_19 w hw
  · exact wl_20 w hw
  · exact wl_21 w hw
  · exact wl_22 w hw
  · exact wl_23 w hw
  · exact wl_24 w hw
  · exact wl_25 w hw
  · exact wl_26 w hw
  · exact wl_27 w hw
  · exact wl_28 w hw
  · exact wl_29 w hw
  · exact wl_30 w hw
set_option maxRecDepth 100000 in
theorem NW_in : ∀ w ∈ NW, w ∈ lw_tbl := mem_by [333, 335, 337, 343, 207, 211, 347, 345, 219, 140, 756, 759, 339, 198, 202, 341, 141, 137, 685, 689, 218, 214, 351, 349, 152, 762, 694, 142, 768, 139, 199, 203, 210, 215, 686, 206, 690, 693, 761, 764, 758, 767, 769, 765, 687, 208, 216, 212, 200, 204, 691, 695, 771, 772, 165, 405, 424, 679, 719, 499, 821, 822, 856, 861] rfl
set_option maxRecDepth 100000 in
theorem AO_in : ∀ C ∈ AOs, Cond.arrayOver (.object C) ∈ lw_tbl := by
  intro C hC
  have h := mem_by (ws := AOs.map fun C => Cond.arrayOver (.object C)) (big := lw_tbl) [117, 119, 121, 129] rfl
  exact h _ (List.mem_map.mpr ⟨C, hC, rfl⟩)
set_option maxRecDepth 100000 in
theorem AC_in : ∀ t ∈ ([.int, .long, .byte, .boolean] : List FieldType), Cond.arrayClass t ∈ lw_tbl := by
  intro C hC
  have h := mem_by (ws := ([.int, .long, .byte, .boolean] : List FieldType).map fun C => Cond.arrayClass C) (big := lw_tbl) [148, 115, 188, 1058] rfl
  exact h _ (List.mem_map.mpr ⟨C, hC, rfl⟩)
set_option maxRecDepth 100000 in
theorem IN_in : ∀ r ∈ classes, Cond.instantiable r.1 r.2.2 ∈ lw_tbl := by
  intro C hC
  have h := mem_by (ws := classes.map fun r => Cond.instantiable r.1 r.2.2) (big := lw_tbl) [92, 131, 123, 326, 190, 745, 678, 100, 164, 910] rfl
  exact h _ (List.mem_map.mpr ⟨C, hC, rfl⟩)
set_option maxRecDepth 100000 in
theorem SR_in : ∀ q ∈ XS, Cond.stringRef "StandInMill" q.1 q.2 ∈ lw_tbl := by
  intro C hC
  have h := mem_by (ws := XS.map fun q => Cond.stringRef "StandInMill" q.1 q.2) (big := lw_tbl) [569, 734, 880, 891] rfl
  exact h _ (List.mem_map.mpr ⟨C, hC, rfl⟩)
set_option maxRecDepth 100000 in
theorem LS_in : Cond.laysStatic xT "UNASSIGNED_STACK" xSte ∈ lw_tbl ∧ Cond.laysStatic xT "SUPPRESSED_SENTINEL" xLs ∈ lw_tbl ∧ Cond.initialized xT ∈ lw_tbl := ⟨List.mem_of_getElem? (i := 556) rfl, List.mem_of_getElem? (i := 558) rfl, List.mem_of_getElem? (i := 83) rfl⟩
set_option maxRecDepth 100000 in
theorem OA_in1 : ∀ w ∈ (Bundle.ownAtoms "StandInMill" 204 xI xUp).filter tok, w ∈ lw_tbl := mem_by [83, 551, 560, 563, 566, 568, 552, 553, 97, 98, 554, 559, 564, 584, 541, 585, 543, 586, 545, 555, 557, 547, 580, 581, 583, 547, 571, 572, 573, 574, 533, 574, 575, 576, 577, 535, 577, 578, 579, 580, 537, 570, 530, 531, 538, 539, 540, 542, 544, 546, 550, 549, 548] rfl
set_option maxRecDepth 100000 in
theorem OA_in2 : ∀ w ∈ (Bundle.ownAtoms "StandInMill" 225 xA xUp).filter tok, w ∈ lw_tbl := mem_by [83, 551, 560, 563, 566, 568, 552, 553, 97, 98, 554, 559, 564, 584, 541, 585, 543, 586, 545, 555, 557, 547, 580, 581, 583, 547, 736, 737, 738, 574, 533, 574, 575, 576, 577, 535, 577, 578, 579, 580, 537, 735, 726, 727, 728, 562, 729, 730, 731, 732, 550, 549, 733] rfl
set_option maxRecDepth 100000 in
theorem XW_in : ∀ w ∈ XW, w ∈ lw_tbl := by
  intro w hw
  have h := List.mem_filter.mp hw
  rcases List.mem_append.mp h.1 with h1 | h1
  · exact OA_in1 w (List.mem_filter.mpr ⟨h1, h.2⟩)
  · exact OA_in2 w (List.mem_filter.mpr ⟨h1, h.2⟩)
