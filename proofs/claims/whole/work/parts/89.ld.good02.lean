set_option maxRecDepth 20000 in
theorem ggL_law_X6_kindFor : GoodIn wsL_law wsX6_kindFor := goodIn_r _ [685, 16, 17, 364, 368, 369, 370, 15, 371, 59, 113, 2, 114, 112, 245, 246, 247, 248, 44, 54, 55, 56, 57, 45, 46, 47, 48, 58, 60, 61, 49, 460, 461, 462, 463, 464, 465, 466, 467, 468, 373, 374, 375, 469, 394, 395, 396, 397, 398, 399, 400, 470, 471, 472, 473, 474, 475, 476, 477, 478, 479, 480, 481, 482, 483, 402, 403, 404, 484, 485, 486, 487, 488, 489, 490, 406, 407, 408, 228, 229, 230, 231, 1079, 1080, 1081, 1082, 1083, 1084, 1085, 1086, 1087, 1114, 1115, 1116, 1117, 1118, 1119, 1120, 1121, 1122, 1123] (by decide +kernel) (by decide +kernel)
set_option maxRecDepth 20000 in
theorem gL_law_X6_kindFor : GoodIn wsL_law (wsV RL 104 RX6 yX6_kindFor wsX6_kindFor) := goodIn_app (goodIn_of _ (by decide +kernel)) ggL_law_X6_kindFor
set_option maxRecDepth 20000 in
theorem ggL_law_X7_kindFor : GoodIn wsL_law wsX7_kindFor := goodIn_r _ [689, 381, 382, 383, 5, 384, 89, 671, 672, 673, 674, 122, 123, 124, 675, 676, 677, 678, 563, 564, 565, 566, 91, 258, 259, 260, 496, 497, 498, 499, 500, 501, 502, 503, 414, 415, 416, 417, 385, 386, 387, 388, 418, 419, 420, 421, 504, 505, 506, 507, 508, 509, 510, 422, 423, 424, 425, 511, 512, 513, 514, 515, 426, 427, 428, 429, 516, 517, 518, 679, 680, 681, 1088, 1089, 1090, 1091, 1092, 1093, 1094, 1095, 1096, 1097, 1098, 1099, 1100, 1101, 1102, 1103, 1104, 1105, 1106, 1107, 1108, 1109, 1110, 1111, 1112, 1113] (by decide +kernel) (by decide +kernel)
set_option maxRecDepth 20000 in
theorem gL_law_X7_kindFor : GoodIn wsL_law (wsV RL 107 RX7 yX7_kindFor wsX7_kindFor) := goodIn_app (goodIn_of _ (by decide +kernel)) ggL_law_X7_kindFor
set_option maxRecDepth 20000 in
theorem ggL_law_X6_goneFor : GoodIn wsL_law wsX6_goneFor := goodIn_r _ [693, 16, 17, 366, 368, 369, 370, 15, 371, 59, 113, 2, 114, 112, 245, 246, 247, 248, 44, 54, 55, 56, 57, 45, 46, 47, 48, 58, 60, 61, 49, 619, 620, 621, 622, 468, 373, 374, 375, 464, 465, 466, 467, 469, 394, 395, 396, 397, 398, 399, 400, 470, 471, 472, 473, 474, 475, 476, 477, 478, 479, 480, 481, 482, 483, 402, 403, 404, 484, 485, 486, 487, 488, 489, 490, 406, 407, 408, 228, 229, 230, 231, 1079, 1080, 1081, 1082, 1083, 1084, 1085, 1086, 1087, 1114, 1115, 1116, 1117, 1118, 1119, 1120, 1121, 1122, 1123] (by decide +kernel) (by decide +kernel)
set_option maxRecDepth 20000 in
theorem gL_law_X6_goneFor : GoodIn wsL_law (wsV RL 108 RX6 yX6_goneFor wsX6_goneFor) := goodIn_app (goodIn_of _ (by decide +kernel)) ggL_law_X6_goneFor
set_option maxRecDepth 20000 in
theorem ggL_law_X7_goneFor : GoodIn wsL_law wsX7_goneFor := goodIn_r _ [697, 89, 381, 382, 383, 5, 384, 671, 672, 673, 674, 122, 123, 124, 627, 628, 629, 630, 91, 258, 259, 260, 385, 386, 387, 388, 500, 501, 502, 503, 414, 415, 416, 417, 418, 419, 420, 421, 504, 505, 506, 507, 508, 509, 510, 422, 423, 424, 425, 511, 512, 513, 514, 515, 426, 427, 428, 429, 516, 517, 518, 1088, 1089, 1090, 1091, 1092, 1093, 1094, 1095, 1096, 1097, 1098, 1099, 1100, 1101, 1102, 1103, 1104, 1105, 1106, 1107, 1108, 1109, 1110, 1111, 1112, 1113] (by decide +kernel) (by decide +kernel)
set_option maxRecDepth 20000 in
theorem gL_law_X7_goneFor : GoodIn wsL_law (wsV RL 111 RX7 yX7_goneFor wsX7_goneFor) := goodIn_app (goodIn_of _ (by decide +kernel)) ggL_law_X7_goneFor
set_option maxRecDepth 20000 in
theorem ggL_law_X6_depthFor : GoodIn wsL_law wsX6_depthFor := goodIn_r _ [701, 17, 16, 328, 476, 477, 474, 478, 112, 113, 2, 114, 245, 246, 247, 15, 248, 44, 54, 55, 56, 57, 45, 46, 47, 48, 58, 59, 60, 61, 49, 702, 465, 466, 467, 468, 373, 374, 375, 469, 394, 395, 396, 397, 398, 399, 400, 470, 471, 472, 473, 475, 479, 480, 481, 482, 483, 402, 403, 404, 484, 485, 486, 487, 488, 489, 490, 406, 407, 408, 228, 229, 230, 231, 703, 704, 705, 706, 707, 1079, 1080, 1081, 1082, 1083, 1084, 1085, 1086, 1087, 1114, 1115, 1116, 1117, 1118, 1119, 1120, 1121, 1122, 1123] (by decide +kernel) (by decide +kernel)
set_option maxRecDepth 20000 in
theorem gL_law_X6_depthFor : GoodIn wsL_law (wsV RL 112 RX6 yX6_depthFor wsX6_depthFor) := goodIn_app (goodIn_of _ (by decide +kernel)) ggL_law_X6_depthFor
set_option maxRecDepth 20000 in
theorem ggL_law_X7_depthFor : GoodIn wsL_law wsX7_depthFor := goodIn_r _ [711, 89, 91, 671, 672, 5, 673, 674, 122, 123, 124, 258, 259, 260, 591, 592, 593, 594, 385, 386, 387, 388, 496, 497, 498, 499, 500, 501, 502, 503, 414, 415, 416, 417, 418, 419, 420, 421, 504, 505, 506, 507, 508, 509, 510, 422, 423, 424, 425, 511, 512, 513, 514, 515, 426, 427, 428, 429, 516, 517, 518, 1088, 1089, 1090, 1091, 1092, 1093, 1094, 1095, 1096, 1097, 1098, 1099, 1100, 1101, 1102, 1103, 1104, 1105, 1106, 1107, 1108, 1109, 1110, 1111, 1112, 1113] (by decide +kernel) (by decide +kernel)
set_option maxRecDepth 20000 in
theorem gL_law_X7_depthFor : GoodIn wsL_law (wsV RL 115 RX7 yX7_depthFor wsX7_depthFor) := goodIn_app (goodIn_of _ (by decide +kernel)) ggL_law_X7_depthFor
set_option maxRecDepth 20000 in
theorem ggL_law_X6_strangersFor : GoodIn wsL_law wsX6_strangersFor := goodIn_r _ [715, 716, 16, 531, 328, 132, 112, 113, 2, 114, 717, 718, 719, 15, 720, 61, 721, 722, 723, 724, 59, 46, 468, 373, 374, 375, 58, 725, 726, 727, 728, 729, 730, 731, 732, 733, 734, 735, 736, 584, 585, 586, 737, 738, 739, 740, 17, 573, 245, 246, 247, 248, 44, 54, 55, 56, 57, 45, 47, 48, 60, 49, 460, 461, 462, 463, 464, 465, 466, 467, 469, 394, 395, 396, 397, 398, 399, 400, 470, 471, 472, 473, 474, 475, 476, 477, 478, 479, 480, 481, 482, 483, 402, 403, 404, 484, 485, 486, 487, 488, 489, 490, 406, 407, 408, 228, 229, 230, 231, 1079, 1080, 1081, 1082, 1083, 1084, 1085, 1086, 1087, 1114, 1115, 1116, 1117, 1118, 1119, 1120, 1121, 1122, 1123] (by decide +kernel) (by decide +kernel)
set_option maxRecDepth 20000 in
theorem gL_law_X6_strangersFor : GoodIn wsL_law (wsV RL 116 RX6 yX6_strangersFor wsX6_strangersFor) := goodIn_app (goodIn_of _ (by decide +kernel)) ggL_law_X6_strangersFor
set_option maxRecDepth 20000 in
theorem ggL_law_X7_strangersFor : GoodIn wsL_law wsX7_strangersFor := goodIn_r _ [744, 745, 746, 89, 122, 123, 5, 124, 747, 748, 749, 750, 751, 752, 753, 91, 258, 259, 260, 496, 497, 498, 499, 500, 501, 502, 503, 414, 415, 416, 417, 385, 386, 387, 388, 418, 419, 420, 421, 504, 505, 506, 507, 508, 509, 510, 422, 423, 424, 425, 511, 512, 513, 514, 515, 426, 427, 428, 429, 516, 517, 518, 1088, 1089, 1090, 1091, 1092, 1093, 1094, 1095, 1096, 1097, 1098, 1099, 1100, 1101, 1102, 1103, 1104, 1105, 1106, 1107, 1108, 1109, 1110, 1111, 1112, 1113] (by decide +kernel) (by decide +kernel)
set_option maxRecDepth 20000 in
theorem gL_law_X7_strangersFor : GoodIn wsL_law (wsV RL 119 RX7 yX7_strangersFor wsX7_strangersFor) := goodIn_app (goodIn_of _ (by decide +kernel)) ggL_law_X7_strangersFor
set_option maxRecDepth 20000 in
theorem ggL_law_X6_fits : GoodIn wsL_law wsX6_fits := goodIn_r _ [757, 16, 28, 758, 17, 365, 112, 113, 2, 114, 368, 369, 370, 15, 371, 59, 245, 246, 247, 248, 44, 54, 55, 56, 57, 45, 46, 47, 48, 58, 60, 61, 49, 759, 760, 761, 762, 763, 764, 765, 531, 702, 465, 466, 467, 468, 373, 374, 375, 469, 394, 395, 396, 397, 398, 399, 400, 470, 471, 472, 473, 474, 475, 476, 477, 478, 479, 480, 481, 482, 483, 402, 403, 404, 484, 485, 486, 487, 488, 489, 490, 406, 407, 408, 228, 229, 230, 231, 1079, 1080, 1081, 1082, 1083, 1084, 1085, 1086, 1087, 1138, 1139, 1140, 1114, 1115, 1116, 1117, 1118, 1119, 1120, 1121, 1122, 1123] (by decide +kernel) (by decide +kernel)
set_option maxRecDepth 20000 in
theorem gL_law_X6_fits : GoodIn wsL_law (wsV RL 120 RX6 yX6_fits wsX6_fits) := goodIn_app (goodIn_of _ (by decide +kernel)) ggL_law_X6_fits
set_option maxRecDepth 20000 in
theorem ggL_law_X7_fits : GoodIn wsL_law wsX7_fits := goodIn_r _ [769, 95, 89, 770, 771, 5, 772, 333, 122, 123, 124, 381, 382, 383, 384, 773, 774, 775, 776, 91, 96, 97, 258, 259, 260, 500, 501, 502, 503, 414, 415, 416, 417, 385, 386, 387, 388, 418, 419, 420, 421, 504, 505, 506, 507, 508, 509, 510, 422, 423, 424, 425, 511, 512, 513, 514, 515, 426, 427, 428, 429, 516, 517, 518, 1088, 1089, 1090, 1091, 1092, 1093, 1094, 1095, 1096, 1097, 1098, 1099, 1100, 1101, 1102, 1103, 1104, 1105, 1106, 1107, 1108, 1109, 1110, 1111, 1112, 1113] (by decide +kernel) (by decide +kernel)
set_option maxRecDepth 20000 in
theorem gL_law_X7_fits : GoodIn wsL_law (wsV RL 123 RX7 yX7_fits wsX7_fits) := goodIn_app (goodIn_of _ (by decide +kernel)) ggL_law_X7_fits
set_option maxRecDepth 20000 in
theorem ggL_law_X6_odds : GoodIn wsL_law wsX6_odds := goodIn_r _ [780, 765, 16, 328, 781, 112, 113, 2, 114, 782, 783, 784, 785, 786, 787, 788, 789, 790, 1079, 1080, 1081, 1082, 1083, 1084, 1085, 1086, 1087, 1114, 1115, 1116, 1117, 1118, 1119, 1120, 1121, 1122, 1123] (by decide +kernel) (by decide +kernel)
set_option maxRecDepth 20000 in
theorem gL_law_X6_odds : GoodIn wsL_law (wsV RL 124 RX6 yX6_odds wsX6_odds) := goodIn_app (goodIn_of _ (by decide +kernel)) ggL_law_X6_odds
set_option maxRecDepth 20000 in
theorem ggL_law_X7_odds : GoodIn wsL_law wsX7_odds := goodIn_r _ [794, 119, 795, 89, 796, 122, 123, 5, 124, 797, 798, 799, 800, 801, 802, 1088, 1089, 1090, 1091, 1092, 1093, 1094, 1095, 1096, 1097, 1098, 1099, 1100, 1101, 1102, 1103, 1104, 1105, 1106, 1107, 1108, 1109, 1110, 1111, 1112, 1113] (by decide +kernel) (by decide +kernel)
set_option maxRecDepth 20000 in
theorem gL_law_X7_odds : GoodIn wsL_law (wsV RL 128 RX7 yX7_odds wsX7_odds) := goodIn_app (goodIn_of _ (by decide +kernel)) ggL_law_X7_odds
set_option maxRecDepth 20000 in
theorem ggL_law_X6_hope : GoodIn wsL_law wsX6_hope := goodIn_r _ [806, 765, 16, 328, 781, 112, 113, 2, 114, 785, 786, 787, 788, 789, 790, 1079, 1080, 1081, 1082, 1083, 1084, 1085, 1086, 1087, 1114, 1115, 1116, 1117, 1118, 1119, 1120, 1121, 1122, 1123] (by decide +kernel) (by decide +kernel)
set_option maxRecDepth 20000 in
theorem gL_law_X6_hope : GoodIn wsL_law (wsV RL 129 RX6 yX6_hope wsX6_hope) := goodIn_app (goodIn_of _ (by decide +kernel)) ggL_law_X6_hope
set_option maxRecDepth 20000 in
theorem ggL_law_X7_hope : GoodIn wsL_law wsX7_hope := goodIn_r _ [810, 455, 89, 796, 795, 122, 123, 5, 124, 800, 801, 802, 1088, 1089, 1090, 1091, 1092, 1093, 1094, 1095, 1096, 1097, 1098, 1099, 1100, 1101, 1102, 1103, 1104, 1105, 1106, 1107, 1108, 1109, 1110, 1111, 1112, 1113] (by decide +kernel) (by decide +kernel)
set_option maxRecDepth 20000 in
theorem gL_law_X7_hope : GoodIn wsL_law (wsV RL 133 RX7 yX7_hope wsX7_hope) := goodIn_app (goodIn_of _ (by decide +kernel)) ggL_law_X7_hope
set_option maxRecDepth 20000 in
theorem ggL_law_X6_prove : GoodIn wsL_law wsX6_prove := goodIn_r _ [814, 16, 17, 26, 815, 131, 368, 369, 370, 15, 371, 59, 113, 2, 114, 112, 245, 246, 247, 248, 44, 54, 55, 56, 57, 45, 46, 47, 48, 58, 60, 61, 49, 702, 465, 466, 467, 468, 373, 374, 375, 469, 394, 395, 396, 397, 398, 399, 400, 470, 471, 472, 473, 474, 475, 476, 477, 478, 479, 480, 481, 482, 483, 402, 403, 404, 484, 485, 486, 487, 488, 489, 490, 406, 407, 408, 228, 229, 230, 231, 816, 817, 818, 819, 366, 367, 531, 1079, 1080, 1081, 1082, 1083, 1084, 1085, 1086, 1087, 1130, 1131, 1114, 1115, 1116, 1117, 1118, 1119, 1120, 1121, 1122, 1123] (by decide +kernel) (by decide +kernel)
set_option maxRecDepth 20000 in
theorem gL_law_X6_prove : GoodIn wsL_law (wsV RL 134 RX6 yX6_prove wsX6_prove) := goodIn_app (goodIn_of _ (by decide +kernel)) ggL_law_X6_prove
set_option maxRecDepth 20000 in
theorem ggL_law_X7_prove : GoodIn wsL_law wsX7_prove := goodIn_r _ [823, 824, 89, 91, 94, 257, 381, 382, 383, 5, 384, 122, 123, 124, 258, 259, 260, 500, 501, 502, 503, 414, 415, 416, 417, 385, 386, 387, 388, 418, 419, 420, 421, 504, 505, 506, 507, 508, 509, 510, 422, 423, 424, 425, 511, 512, 513, 514, 515, 426, 427, 428, 429, 516, 517, 518, 1088, 1089, 1090, 1091, 1092, 1093, 1094, 1095, 1096, 1097, 1098, 1099, 1100, 1101, 1102, 1103, 1104, 1105, 1106, 1107, 1108, 1109, 1110, 1111, 1112, 1113] (by decide +kernel) (by decide +kernel)
set_option maxRecDepth 20000 in
theorem gL_law_X7_prove : GoodIn wsL_law (wsV RL 137 RX7 yX7_prove wsX7_prove) := goodIn_app (goodIn_of _ (by decide +kernel)) ggL_law_X7_prove
set_option maxRecDepth 20000 in
theorem ggL_law_X6_row : GoodIn wsL_law wsX6_row := goodIn_r _ [828, 26, 815, 829, 830, 831, 25, 832, 833, 113, 2, 114, 1079, 1080, 1081, 1082, 1083, 1084, 1085, 1086, 1087, 1130, 1131] (by decide +kernel) (by decide +kernel)
set_option maxRecDepth 20000 in
theorem gL_law_X6_row : GoodIn wsL_law (wsV RL 138 RX6 yX6_row wsX6_row) := goodIn_app (goodIn_of _ (by decide +kernel)) ggL_law_X6_row
set_option maxRecDepth 20000 in
theorem ggL_law_X7_row : GoodIn wsL_law wsX7_row := goodIn_r _ [837, 94, 838, 839, 840, 5, 841, 257, 413, 122, 123, 124, 1088, 1089, 1090, 1091, 1092, 1093, 1094, 1095, 1096, 1097, 1098, 1099, 1100, 1101, 1102, 1103, 1104, 1105, 1106, 1107, 1108, 1109, 1110, 1111, 1112, 1113] (by decide +kernel) (by decide +kernel)
set_option maxRecDepth 20000 in
theorem gL_law_X7_row : GoodIn wsL_law (wsV RL 141 RX7 yX7_row wsX7_row) := goodIn_app (goodIn_of _ (by decide +kernel)) ggL_law_X7_row
set_option maxRecDepth 20000 in
theorem ggL_law_X6_alterRow : GoodIn wsL_law wsX6_alterRow := goodIn_r _ [845, 26, 815, 829, 830, 831, 25, 832, 833, 113, 2, 114, 1079, 1080, 1081, 1082, 1083, 1084, 1085, 1086, 1087, 1130, 1131] (by decide +kernel) (by decide +kernel)
set_option maxRecDepth 20000 in
theorem gL_law_X6_alterRow : GoodIn wsL_law (wsV RL 142 RX6 yX6_alterRow wsX6_alterRow) := goodIn_app (goodIn_of _ (by decide +kernel)) ggL_law_X6_alterRow
set_option maxRecDepth 20000 in
theorem ggL_law_X7_alterRow : GoodIn wsL_law wsX7_alterRow := goodIn_r _ [849, 94, 838, 839, 840, 5, 841, 257, 413, 122, 123, 124, 1088, 1089, 1090, 1091, 1092, 1093, 1094, 1095, 1096, 1097, 1098, 1099, 1100, 1101, 1102, 1103, 1104, 1105, 1106, 1107, 1108, 1109, 1110, 1111, 1112, 1113] (by decide +kernel) (by decide +kernel)
set_option maxRecDepth 20000 in
theorem gL_law_X7_alterRow : GoodIn wsL_law (wsV RL 145 RX7 yX7_alterRow wsX7_alterRow) := goodIn_app (goodIn_of _ (by decide +kernel)) ggL_law_X7_alterRow
set_option maxRecDepth 20000 in
theorem ggL_law_X6_judge : GoodIn wsL_law wsX6_judge := goodIn_r _ [853, 16, 17, 26, 131, 815, 368, 369, 370, 15, 371, 59, 113, 2, 114, 245, 246, 247, 248, 44, 54, 55, 56, 57, 45, 46, 47, 48, 58, 60, 61, 49, 702, 465, 466, 467, 468, 373, 374, 375, 469, 394, 395, 396, 397, 398, 399, 400, 470, 471, 472, 473, 474, 475, 476, 477, 478, 479, 480, 481, 482, 483, 402, 403, 404, 484, 485, 486, 487, 488, 489, 490, 406, 407, 408, 228, 229, 230, 231, 816, 817, 818, 819, 366, 367, 531, 1079, 1080, 1081, 1082, 1083, 1084, 1085, 1086, 1087, 1130, 1131, 1114, 1115, 1116, 1117, 1118, 1119, 1120, 1121, 1122, 1123] (by decide +kernel) (by decide +kernel)
set_option maxRecDepth 20000 in
theorem gL_law_X6_judge : GoodIn wsL_law (wsV RL 146 RX6 yX6_judge wsX6_judge) := goodIn_app (goodIn_of _ (by decide +kernel)) ggL_law_X6_judge
set_option maxRecDepth 20000 in
theorem ggL_law_X7_judge : GoodIn wsL_law wsX7_judge := goodIn_r _ [857, 89, 91, 257, 94, 381, 382, 383, 5, 384, 258, 259, 260, 500, 501, 502, 503, 414, 415, 416, 417, 385, 386, 387, 388, 418, 419, 420, 421, 504, 505, 506, 507, 508, 509, 510, 422, 423, 424, 425, 511, 512, 513, 514, 515, 426, 427, 428, 429, 516, 517, 518, 1088, 1089, 1090, 1091, 1092, 1093, 1094, 1095, 1096, 1097, 1098, 1099, 1100, 1101, 1102, 1103, 1104, 1105, 1106, 1107, 1108, 1109, 1110, 1111, 1112, 1113] (by decide +kernel) (by decide +kernel)
set_option maxRecDepth 20000 in
theorem gL_law_X7_judge : GoodIn wsL_law (wsV RL 149 RX7 yX7_judge wsX7_judge) := goodIn_app (goodIn_of _ (by decide +kernel)) ggL_law_X7_judge
