set_option maxRecDepth 20000 in
theorem inLr24 : ∀ w ∈ wsL_law_r24, w ∈ lw_tbl := zin _ [549, 550, 551, 553, 13, 554, 1080, 1081, 1082, 1083, 1084, 1085, 1087, 48, 1088, 1089, 555, 556, 557, 558, 128, 123, 559, 560] (by decide +kernel)
set_option maxRecDepth 20000 in
theorem inLr25 : ∀ w ∈ wsL_law_r25, w ∈ lw_tbl := zin _ [561, 562, 563, 564, 565, 566, 567, 568, 569, 570, 571, 1090, 1091, 1092, 1093, 1094, 1096, 49, 1097, 1098, 1100, 50, 1101, 1102] (by decide +kernel)
set_option maxRecDepth 20000 in
theorem inLr26 : ∀ w ∈ wsL_law_r26, w ∈ lw_tbl := zin _ [1104, 51, 1105, 1106, 1108, 52, 1109, 572, 573, 574, 575, 1110, 1111, 1112, 1113, 576, 577, 578, 579, 580, 581, 582, 583, 1114] (by decide +kernel)
set_option maxRecDepth 20000 in
theorem inLr27 : ∀ w ∈ wsL_law_r27, w ∈ lw_tbl := zin _ [1115, 1116, 1117, 1118, 1120, 53, 1121, 584, 585, 586, 587, 588, 589, 590, 591, 1122, 1123, 1124, 1125, 592, 593, 594, 595, 596] (by decide +kernel)
set_option maxRecDepth 20000 in
theorem inLr28 : ∀ w ∈ wsL_law_r28, w ∈ lw_tbl := zin _ [597, 598, 599, 1126, 1127, 1128, 1129, 600, 601, 602, 603, 1130, 1131, 1132, 1133, 604, 605, 606, 607, 1134, 1135, 1136, 1137, 1138] (by decide +kernel)
set_option maxRecDepth 20000 in
theorem inLr29 : ∀ w ∈ wsL_law_r29, w ∈ lw_tbl := zin _ [1139, 1140, 1141, 1142, 1144, 54, 1145, 1146, 1147, 1148, 608, 609, 610, 611, 1149, 1150, 1151, 1152, 612, 613, 614, 615, 1153, 1154] (by decide +kernel)
set_option maxRecDepth 20000 in
theorem inLr30 : ∀ w ∈ wsL_law_r30, w ∈ lw_tbl := zin _ [1155, 1156, 616, 617, 618, 619, 620, 621, 622, 623, 624, 625, 1157, 1158, 1159, 1160, 626, 627, 628, 629, 630, 631, 632, 633] (by decide +kernel)
set_option maxRecDepth 20000 in
theorem inLr31 : ∀ w ∈ wsL_law_r31, w ∈ lw_tbl := zin _ [634, 635, 636, 637, 638, 639, 640, 641, 642, 643, 644, 85, 645, 646, 647, 648, 649, 650, 652, 14, 653, 1161, 1162, 1163] (by decide +kernel)
set_option maxRecDepth 20000 in
theorem inLr32 : ∀ w ∈ wsL_law_r32, w ∈ lw_tbl := zin _ [1164, 1165, 1166, 1167, 1168, 1169, 1170, 1172, 55, 1173, 654, 655, 656, 657, 240, 658, 660, 15, 661, 243, 237, 662, 1174, 1175] (by decide +kernel)
set_option maxRecDepth 20000 in
theorem inLr33 : ∀ w ∈ wsL_law_r33, w ∈ lw_tbl := zin _ [1176, 1177, 1178, 1179, 1180, 1181, 1183, 56, 1184, 663, 664, 665, 666, 667, 668, 669, 670, 671, 672, 673, 674, 675, 676, 1185] (by decide +kernel)
set_option maxRecDepth 20000 in
theorem inLr34 : ∀ w ∈ wsL_law_r34, w ∈ lw_tbl := zin _ [1186, 1187, 1188, 1189, 1193, 1190, 1191, 1192, 1194, 1195, 1196, 677, 678, 679, 680, 1197, 1198, 1199, 1200, 681, 682, 683, 684, 192] (by decide +kernel)
set_option maxRecDepth 20000 in
theorem inLr35 : ∀ w ∈ wsL_law_r35, w ∈ lw_tbl := zin _ [685, 687, 16, 688, 1201, 1202, 1203, 1204, 1205, 689, 690, 691, 692, 693, 694, 695, 696, 193, 1206, 1207, 1208, 1209, 1210, 1212] (by decide +kernel)
set_option maxRecDepth 20000 in
theorem inLr36 : ∀ w ∈ wsL_law_r36, w ∈ lw_tbl := zin _ [57, 1213, 698, 699, 700, 701, 1214, 1215, 1216, 1217, 702, 703, 704, 705, 1218, 1219, 1220, 1221, 706, 707, 708, 709, 710, 1238] (by decide +kernel)
set_option maxRecDepth 20000 in
theorem inLr37 : ∀ w ∈ wsL_law_r37, w ∈ lw_tbl := zin _ [1239, 1240, 1241, 1234, 1236, 58, 1237, 711, 712, 713, 714, 715, 716, 717, 718, 241, 719, 720, 86, 721, 1222, 1223, 1224, 1225] (by decide +kernel)
set_option maxRecDepth 20000 in
theorem inLr38 : ∀ w ∈ wsL_law_r38, w ∈ lw_tbl := zin _ [722, 723, 724, 725, 726, 727, 728, 1226, 1227, 1228, 1229, 729, 730, 731, 732, 1230, 1231, 1232, 1233, 733, 734, 735, 736, 258] (by decide +kernel)
set_option maxRecDepth 20000 in
theorem inLr39 : ∀ w ∈ wsL_law_r39, w ∈ lw_tbl := zin _ [737, 738, 739, 740, 259, 741, 742, 743, 744, 239, 261, 242, 263, 1242, 1243, 1244, 1245, 1246, 1247, 1248, 745, 746, 747, 748] (by decide +kernel)
set_option maxRecDepth 20000 in
theorem inLr40 : ∀ w ∈ wsL_law_r40, w ∈ lw_tbl := zin _ [260, 262, 264, 749, 751, 17, 752, 753, 754, 755, 756, 1249, 1250, 1251, 1252, 1253, 1254, 1255, 1256, 1258, 59, 1259, 1260, 1261] (by decide +kernel)
set_option maxRecDepth 20000 in
theorem inLr41 : ∀ w ∈ wsL_law_r41, w ∈ lw_tbl := zin _ [1262, 758, 759, 760, 761, 213, 762, 763, 764, 765, 212, 217, 214, 215, 216, 766, 768, 18, 769, 772, 774, 19, 775, 776] (by decide +kernel)
set_option maxRecDepth 20000 in
theorem inLr42 : ∀ w ∈ wsL_law_r42, w ∈ lw_tbl := zin _ [778, 20, 779, 780, 782, 21, 783, 1263, 1264, 1265, 1266, 835, 839, 836, 837, 838, 1267, 1269, 60, 1270, 1271, 1273, 61, 1274] (by decide +kernel)
set_option maxRecDepth 20000 in
theorem inLr43 : ∀ w ∈ wsL_law_r43, w ∈ lw_tbl := zin _ [1275, 1277, 62, 1278, 1279, 1281, 63, 1282, 1283, 1285, 64, 1286, 1287, 1289, 65, 1290, 1291, 1293, 66, 1294, 1295, 1297, 67, 1298] (by decide +kernel)
set_option maxRecDepth 20000 in
theorem inLr44 : ∀ w ∈ wsL_law_r44, w ∈ lw_tbl := zin _ [1299, 1301, 68, 1302, 1303, 1305, 69, 1306, 784, 785, 786, 787, 211, 1307, 1308, 1309, 1310, 788, 789, 790, 791, 792, 793, 794] (by decide +kernel)
set_option maxRecDepth 20000 in
theorem inLr45 : ∀ w ∈ wsL_law_r45, w ∈ lw_tbl := zin _ [795, 1311, 1312, 1313, 1314, 796, 797, 798, 799, 277, 1315, 1316, 1317, 1318, 818, 800, 801, 802, 803, 1319, 1320, 1321, 1322] (by decide +kernel)
set_option maxRecDepth 20000 in
theorem inX0 : ∀ w ∈ wsX00, w ∈ lw_tbl := zin _ [195, 197] (by decide +kernel)
set_option maxRecDepth 20000 in
theorem inX1 : ∀ w ∈ wsX10, w ∈ lw_tbl := zin _ [244, 246, 248] (by decide +kernel)
set_option maxRecDepth 20000 in
theorem inX2 : ∀ w ∈ wsX20, w ∈ lw_tbl := zin _ [265, 267, 269, 271] (by decide +kernel)
set_option maxRecDepth 20000 in
theorem inX3 : ∀ w ∈ wsX30, w ∈ lw_tbl := zin _ [218, 220, 222, 224, 226, 228] (by decide +kernel)
set_option maxRecDepth 20000 in
theorem inX4 : ∀ w ∈ wsX40, w ∈ lw_tbl := zin _ [134, 136, 138, 140, 142, 144, 146, 148, 150, 152] (by decide +kernel)
set_option maxRecDepth 20000 in
theorem inX5 : ∀ w ∈ wsX50, w ∈ lw_tbl := zin _ [171, 173, 175, 177, 179, 181] (by decide +kernel)
set_option maxRecDepth 20000 in
theorem inX6 : ∀ w ∈ wsX60, w ∈ lw_tbl := zin _ [283, 285, 287, 289, 291, 293, 295, 297, 299] (by decide +kernel)
set_option maxRecDepth 20000 in
theorem inX7 : ∀ w ∈ wsX70, w ∈ lw_tbl := zin _ [840, 842, 844, 846, 848, 850, 852, 854, 856, 858, 860, 862, 864, 866, 868, 870, 872, 874, 876, 878, 880, 882, 884, 886, 888, 890] (by decide +kernel)
theorem inLr : ∀ w ∈ ((wsL_law_r1 ++ (wsL_law_r2 ++ (wsL_law_r3 ++ (wsL_law_r4 ++ (wsL_law_r5 ++ (wsL_law_r6 ++ (wsL_law_r7 ++ (wsL_law_r8 ++ (wsL_law_r9 ++ (wsL_law_r10 ++ (wsL_law_r11 ++ (wsL_law_r12 ++ (wsL_law_r13 ++ (wsL_law_r14 ++ (wsL_law_r15 ++ (wsL_law_r16 ++ (wsL_law_r17 ++ (wsL_law_r18 ++ (wsL_law_r19 ++ (wsL_law_r20 ++ (wsL_law_r21 ++ (wsL_law_r22 ++ (wsL_law_r23 ++ (wsL_law_r24 ++ (wsL_law_r25 ++ (wsL_law_r26 ++ (wsL_law_r27 ++ (wsL_law_r28 ++ (wsL_law_r29 ++ (wsL_law_r30 ++ (wsL_law_r31 ++ (wsL_law_r32 ++ (wsL_law_r33 ++ (wsL_law_r34 ++ (wsL_law_r35 ++ (wsL_law_r36 ++ (wsL_law_r37 ++ (wsL_law_r38 ++ (wsL_law_r39 ++ (wsL_law_r40 ++ (wsL_law_r41 ++ (wsL_law_r42 ++ (wsL_law_r43 ++ (wsL_law_r44 ++ wsL_law_r45))))))))))))))))))))))))))))))))))))))))))))), w ∈ lw_tbl := fun w h => (List.mem_append.mp h).elim (fun h => inLr1 w h) (fun h => (List.mem_append.mp h).elim (fun h => inLr2 w h) (fun h => (List.mem_append.mp h).elim (fun h => inLr3 w h) (fun h => (List.mem_append.mp h).elim (fun h => inLr4 w h) (fun h => (List.mem_append.mp h).elim (fun h => inLr5 w h) (fun h => (List.mem_append.mp h).elim (fun h => inLr6 w h) (fun h => (List.mem_append.mp h).elim (fun h => inLr7 w h) (fun h => (List.mem_append.mp h).elim (fun h => inLr8 w h) (fun h => (List.mem_append.mp h).elim (fun h => inLr9 w h) (fun h => (List.mem_append.mp h).elim (fun h => inLr10 w h) (fun h => (List.mem_append.mp h).elim (fun h => inLr11 w h) (fun h => (List.mem_append.mp h).elim (fun h => inLr12 w h) (fun h => (List.mem_append.mp h).elim (fun h => inLr13 w h) (fun h => (List.mem_append.mp h).elim (fun h => inLr14 w h) (fun h => (List.mem_append.mp h).elim (fun h => inLr15 w h) (fun h => (List.mem_append.mp h).elim (fun h => inLr16 w h) (fun h => (List.mem_append.mp h).elim (fun h => inLr17 w h) (fun h => (List.mem_append.mp h).elim (fun h => inLr18 w h) (fun h => (List.mem_append.mp h).elim (fun h => inLr19 w h) (fun h => (List.mem_append.mp h).elim (fun h => inLr20 w h) (fun h => (List.mem_append.mp h).elim (fun h => inLr21 w h) (fun h => (List.mem_append.mp h).elim (fun h => inLr22 w h) (fun h => (List.mem_append.mp h).elim (fun h => inLr23 w h) (fun h => (List.mem_append.mp h).elim (fun h => inLr24 w h) (fun h => (List.mem_append.mp h).elim (fun h => inLr25 w h) (fun h => (List.mem_append.mp h).elim (fun h => inLr26 w h) (fun h => (List.mem_append.mp h).elim (fun h => inLr27 w h) (fun h => (List.mem_append.mp h).elim (fun h => inLr28 w h) (fun h => (List.mem_append.mp h).elim (fun h => inLr29 w h) (fun h => (List.mem_append.mp h).elim (fun h => inLr30 w h) (fun h => (List.mem_append.mp h).elim (fun h => inLr31 w h) (fun h => (List.mem_append.mp h).elim (fun h => inLr32 w h) (fun h => (List.mem_append.mp h).elim (fun h => inLr33 w h) (fun h => (List.mem_append.mp h).elim (fun h => inLr34 w h) (fun h => (List.mem_append.mp h).elim (fun h => inLr35 w h) (fun h => (List.mem_append.mp h).elim (fun h => inLr36 w h) (fun h => (List.mem_append.mp h).elim (fun h => inLr37 w h) (fun h => (List.mem_append.mp h).elim (fun h => inLr38 w h) (fun h => (List.mem_append.mp h).elim (fun h => inLr39 w h) (fun h => (List.mem_append.mp h).elim (fun h => inLr40 w h) (fun h => (List.mem_append.mp h).elim (fun h => inLr41 w h) (fun h => (List.mem_append.mp h).elim (fun h => inLr42 w h) (fun h => (List.mem_append.mp h).elim (fun h => inLr43 w h) (fun h => (List.mem_append.mp h).elim (fun h => inLr44 w h) (fun h => inLr45 w h))))))))))))))))))))))))))))))))))))))))))))
theorem wsL_law_in : ∀ w ∈ wsL_law, w ∈ lw_tbl := fun w h => (List.mem_append.mp h).elim (fun h => (List.mem_append.mp h).elim (fun h => (List.mem_append.mp h).elim (fun h => (List.mem_append.mp h).elim (fun h => (List.mem_append.mp h).elim (fun h => (List.mem_append.mp h).elim (fun h => (List.mem_append.mp h).elim (fun h => (List.mem_append.mp h).elim (fun h => (List.mem_append.mp h).elim (fun h => inLr w h) (fun h => inX6 w h)) (fun h => inX7 w h)) (fun h => inX4 w h)) (fun h => inX5 w h)) (fun h => inX0 w h)) (fun h => inX3 w h)) (fun h => inX1 w h)) (fun h => inX2 w h)) (fun h => absurd h List.not_mem_nil)
