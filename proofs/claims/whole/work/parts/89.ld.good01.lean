set_option maxRecDepth 20000 in
theorem ggL_law_X6_courses : GoodIn wsL_law wsX6_courses := goodIn_r _ [459, 16, 112, 113, 2, 114, 460, 461, 462, 15, 463, 61, 464, 465, 466, 467, 59, 47, 44, 60, 468, 373, 374, 375, 58, 469, 394, 395, 396, 45, 46, 397, 398, 399, 400, 470, 471, 472, 473, 474, 475, 476, 477, 478, 479, 480, 481, 482, 483, 402, 403, 404, 484, 485, 486, 487, 488, 489, 48, 490, 406, 407, 408, 228, 229, 230, 231, 1079, 1080, 1081, 1082, 1083, 1084, 1085, 1086, 1087, 1114, 1115, 1116, 1117, 1118, 1119, 1120, 1121, 1122, 1123] (by decide +kernel) (by decide +kernel)
set_option maxRecDepth 20000 in
theorem gL_law_X6_courses : GoodIn wsL_law (wsV RL 60 RX6 yX6_courses wsX6_courses) := goodIn_app (goodIn_of _ (by decide +kernel)) ggL_law_X6_courses
set_option maxRecDepth 20000 in
theorem ggL_law_X7_courses : GoodIn wsL_law wsX7_courses := goodIn_r _ [494, 495, 89, 122, 123, 5, 124, 496, 497, 498, 499, 500, 501, 502, 503, 414, 415, 416, 417, 385, 386, 387, 388, 418, 419, 420, 421, 504, 505, 506, 507, 508, 509, 510, 422, 423, 424, 425, 511, 512, 513, 514, 515, 426, 427, 428, 429, 516, 517, 518, 1088, 1089, 1090, 1091, 1092, 1093, 1094, 1095, 1096, 1097, 1098, 1099, 1100, 1101, 1102, 1103, 1104, 1105, 1106, 1107, 1108, 1109, 1110, 1111, 1112, 1113] (by decide +kernel) (by decide +kernel)
set_option maxRecDepth 20000 in
theorem gL_law_X7_courses : GoodIn wsL_law (wsV RL 63 RX7 yX7_courses wsX7_courses) := goodIn_app (goodIn_of _ (by decide +kernel)) ggL_law_X7_courses
set_option maxRecDepth 20000 in
theorem ggL_law_X6_seed : GoodIn wsL_law wsX6_seed := goodIn_r _ [522, 16, 129, 1079, 1080, 1081, 1082, 1083, 1084, 1085, 1086, 1087, 1114, 1115, 1116, 1117, 1118, 1119, 1120, 1121, 1122, 1123] (by decide +kernel) (by decide +kernel)
set_option maxRecDepth 20000 in
theorem gL_law_X6_seed : GoodIn wsL_law (wsV RL 64 RX6 yX6_seed wsX6_seed) := goodIn_app (goodIn_of _ (by decide +kernel)) ggL_law_X6_seed
set_option maxRecDepth 20000 in
theorem ggL_law_X7_seed : GoodIn wsL_law wsX7_seed := goodIn_r _ [526, 334, 335, 336, 5, 337, 89, 1088, 1089, 1090, 1091, 1092, 1093, 1094, 1095, 1096, 1097, 1098, 1099, 1100, 1101, 1102, 1103, 1104, 1105, 1106, 1107, 1108, 1109, 1110, 1111, 1112, 1113] (by decide +kernel) (by decide +kernel)
set_option maxRecDepth 20000 in
theorem gL_law_X7_seed : GoodIn wsL_law (wsV RL 67 RX7 yX7_seed wsX7_seed) := goodIn_app (goodIn_of _ (by decide +kernel)) ggL_law_X7_seed
set_option maxRecDepth 20000 in
theorem ggL_law_X6_course : GoodIn wsL_law wsX6_course := goodIn_r _ [530, 16, 531, 532, 533, 534, 15, 535, 59, 44, 46, 536, 537, 538, 539, 49, 540, 464, 465, 466, 467, 47, 60, 468, 373, 374, 375, 58, 469, 394, 395, 396, 45, 397, 398, 399, 400, 61, 470, 2, 471, 472, 473, 474, 475, 476, 477, 478, 479, 480, 481, 482, 483, 402, 403, 404, 484, 485, 486, 487, 488, 489, 48, 490, 406, 407, 408, 228, 229, 230, 231, 1079, 1080, 1081, 1082, 1083, 1084, 1085, 1086, 1087, 1114, 1115, 1116, 1117, 1118, 1119, 1120, 1121, 1122, 1123] (by decide +kernel) (by decide +kernel)
set_option maxRecDepth 20000 in
theorem gL_law_X6_course : GoodIn wsL_law (wsV RL 68 RX6 yX6_course wsX6_course) := goodIn_app (goodIn_of _ (by decide +kernel)) ggL_law_X6_course
set_option maxRecDepth 20000 in
theorem ggL_law_X7_course : GoodIn wsL_law wsX7_course := goodIn_r _ [544, 89, 545, 546, 547, 5, 548, 549, 500, 501, 502, 503, 414, 415, 416, 417, 385, 386, 387, 388, 418, 419, 420, 421, 504, 505, 506, 507, 508, 509, 510, 422, 423, 424, 425, 511, 512, 513, 514, 515, 426, 427, 428, 429, 516, 517, 518, 1088, 1089, 1090, 1091, 1092, 1093, 1094, 1095, 1096, 1097, 1098, 1099, 1100, 1101, 1102, 1103, 1104, 1105, 1106, 1107, 1108, 1109, 1110, 1111, 1112, 1113] (by decide +kernel) (by decide +kernel)
set_option maxRecDepth 20000 in
theorem gL_law_X7_course : GoodIn wsL_law (wsV RL 71 RX7 yX7_course wsX7_course) := goodIn_app (goodIn_of _ (by decide +kernel)) ggL_law_X7_course
set_option maxRecDepth 20000 in
theorem ggL_law_X6_luck : GoodIn wsL_law wsX6_luck := goodIn_r _ [553, 16, 129, 17, 531, 112, 113, 2, 114, 554, 555, 556, 557, 245, 246, 247, 15, 248, 44, 54, 55, 56, 57, 45, 46, 47, 48, 58, 59, 60, 61, 49, 460, 461, 462, 463, 464, 465, 466, 467, 468, 373, 374, 375, 469, 394, 395, 396, 397, 398, 399, 400, 470, 471, 472, 473, 474, 475, 476, 477, 478, 479, 480, 481, 482, 483, 402, 403, 404, 484, 485, 486, 487, 488, 489, 490, 406, 407, 408, 228, 229, 230, 231, 532, 533, 534, 535, 536, 537, 538, 539, 540, 1079, 1080, 1081, 1082, 1083, 1084, 1085, 1086, 1087, 1114, 1115, 1116, 1117, 1118, 1119, 1120, 1121, 1122, 1123] (by decide +kernel) (by decide +kernel)
set_option maxRecDepth 20000 in
theorem gL_law_X6_luck : GoodIn wsL_law (wsV RL 72 RX6 yX6_luck wsX6_luck) := goodIn_app (goodIn_of _ (by decide +kernel)) ggL_law_X6_luck
set_option maxRecDepth 20000 in
theorem ggL_law_X7_luck : GoodIn wsL_law wsX7_luck := goodIn_r _ [561, 562, 89, 91, 122, 123, 5, 124, 563, 564, 565, 566, 258, 259, 260, 496, 497, 498, 499, 500, 501, 502, 503, 414, 415, 416, 417, 385, 386, 387, 388, 418, 419, 420, 421, 504, 505, 506, 507, 508, 509, 510, 422, 423, 424, 425, 511, 512, 513, 514, 515, 426, 427, 428, 429, 516, 517, 518, 567, 542, 543, 544, 545, 546, 547, 548, 549, 1088, 1089, 1090, 1091, 1092, 1093, 1094, 1095, 1096, 1097, 1098, 1099, 1100, 1101, 1102, 1103, 1104, 1105, 1106, 1107, 1108, 1109, 1110, 1111, 1112, 1113] (by decide +kernel) (by decide +kernel)
set_option maxRecDepth 20000 in
theorem gL_law_X7_luck : GoodIn wsL_law (wsV RL 75 RX7 yX7_luck wsX7_luck) := goodIn_app (goodIn_of _ (by decide +kernel)) ggL_law_X7_luck
set_option maxRecDepth 20000 in
theorem ggL_law_X6_state : GoodIn wsL_law wsX6_state := goodIn_r _ [571, 16, 572, 531, 573, 574, 398, 399, 15, 400, 61, 575, 576, 577, 578, 59, 47, 579, 580, 581, 582, 58, 583, 584, 585, 586, 46, 1079, 1080, 1081, 1082, 1083, 1084, 1085, 1086, 1087, 1114, 1115, 1116, 1117, 1118, 1119, 1120, 1121, 1122, 1123] (by decide +kernel) (by decide +kernel)
set_option maxRecDepth 20000 in
theorem gL_law_X6_state : GoodIn wsL_law (wsV RL 76 RX6 yX6_state wsX6_state) := goodIn_app (goodIn_of _ (by decide +kernel)) ggL_law_X6_state
set_option maxRecDepth 20000 in
theorem ggL_law_X7_state : GoodIn wsL_law wsX7_state := goodIn_r _ [590, 89, 418, 419, 420, 5, 421, 591, 592, 593, 594, 385, 386, 387, 388, 595, 596, 597, 598, 599, 600, 601, 602, 603, 604, 605, 606, 1088, 1089, 1090, 1091, 1092, 1093, 1094, 1095, 1096, 1097, 1098, 1099, 1100, 1101, 1102, 1103, 1104, 1105, 1106, 1107, 1108, 1109, 1110, 1111, 1112, 1113] (by decide +kernel) (by decide +kernel)
set_option maxRecDepth 20000 in
theorem gL_law_X7_state : GoodIn wsL_law (wsV RL 79 RX7 yX7_state wsX7_state) := goodIn_app (goodIn_of _ (by decide +kernel)) ggL_law_X7_state
set_option maxRecDepth 20000 in
theorem ggL_law_X6_deep : GoodIn wsL_law wsX6_deep := goodIn_r _ [610, 16, 17, 366, 368, 369, 370, 15, 371, 59, 113, 2, 114, 112, 554, 555, 556, 557, 245, 246, 247, 248, 44, 54, 55, 56, 57, 45, 46, 47, 48, 58, 60, 61, 49, 460, 461, 462, 463, 464, 465, 466, 467, 468, 373, 374, 375, 469, 394, 395, 396, 397, 398, 399, 400, 470, 471, 472, 473, 474, 475, 476, 477, 478, 479, 480, 481, 482, 483, 402, 403, 404, 484, 485, 486, 487, 488, 489, 490, 406, 407, 408, 228, 229, 230, 231, 1079, 1080, 1081, 1082, 1083, 1084, 1085, 1086, 1087, 1114, 1115, 1116, 1117, 1118, 1119, 1120, 1121, 1122, 1123] (by decide +kernel) (by decide +kernel)
set_option maxRecDepth 20000 in
theorem gL_law_X6_deep : GoodIn wsL_law (wsV RL 80 RX6 yX6_deep wsX6_deep) := goodIn_app (goodIn_of _ (by decide +kernel)) ggL_law_X6_deep
set_option maxRecDepth 20000 in
theorem ggL_law_X7_deep : GoodIn wsL_law wsX7_deep := goodIn_r _ [614, 495, 89, 91, 381, 382, 383, 5, 384, 122, 123, 124, 258, 259, 260, 496, 497, 498, 499, 500, 501, 502, 503, 414, 415, 416, 417, 385, 386, 387, 388, 418, 419, 420, 421, 504, 505, 506, 507, 508, 509, 510, 422, 423, 424, 425, 511, 512, 513, 514, 515, 426, 427, 428, 429, 516, 517, 518, 1088, 1089, 1090, 1091, 1092, 1093, 1094, 1095, 1096, 1097, 1098, 1099, 1100, 1101, 1102, 1103, 1104, 1105, 1106, 1107, 1108, 1109, 1110, 1111, 1112, 1113] (by decide +kernel) (by decide +kernel)
set_option maxRecDepth 20000 in
theorem gL_law_X7_deep : GoodIn wsL_law (wsV RL 83 RX7 yX7_deep wsX7_deep) := goodIn_app (goodIn_of _ (by decide +kernel)) ggL_law_X7_deep
set_option maxRecDepth 20000 in
theorem ggL_law_X6_speaks : GoodIn wsL_law wsX6_speaks := goodIn_r _ [618, 16, 17, 368, 369, 370, 15, 371, 59, 113, 2, 114, 245, 246, 247, 248, 44, 54, 55, 56, 57, 45, 46, 47, 48, 58, 60, 61, 49, 619, 620, 621, 622, 468, 373, 374, 375, 464, 465, 466, 467, 469, 394, 395, 396, 397, 398, 399, 400, 470, 471, 472, 473, 474, 475, 476, 477, 478, 479, 480, 481, 482, 483, 402, 403, 404, 484, 485, 486, 487, 488, 489, 490, 406, 407, 408, 228, 229, 230, 231, 1079, 1080, 1081, 1082, 1083, 1084, 1085, 1086, 1087, 1114, 1115, 1116, 1117, 1118, 1119, 1120, 1121, 1122, 1123] (by decide +kernel) (by decide +kernel)
set_option maxRecDepth 20000 in
theorem gL_law_X6_speaks : GoodIn wsL_law (wsV RL 84 RX6 yX6_speaks wsX6_speaks) := goodIn_app (goodIn_of _ (by decide +kernel)) ggL_law_X6_speaks
set_option maxRecDepth 20000 in
theorem ggL_law_X7_speaks : GoodIn wsL_law wsX7_speaks := goodIn_r _ [626, 381, 382, 383, 5, 384, 89, 627, 628, 629, 630, 91, 258, 259, 260, 385, 386, 387, 388, 500, 501, 502, 503, 414, 415, 416, 417, 418, 419, 420, 421, 504, 505, 506, 507, 508, 509, 510, 422, 423, 424, 425, 511, 512, 513, 514, 515, 426, 427, 428, 429, 516, 517, 518, 1088, 1089, 1090, 1091, 1092, 1093, 1094, 1095, 1096, 1097, 1098, 1099, 1100, 1101, 1102, 1103, 1104, 1105, 1106, 1107, 1108, 1109, 1110, 1111, 1112, 1113] (by decide +kernel) (by decide +kernel)
set_option maxRecDepth 20000 in
theorem gL_law_X7_speaks : GoodIn wsL_law (wsV RL 87 RX7 yX7_speaks wsX7_speaks) := goodIn_app (goodIn_of _ (by decide +kernel)) ggL_law_X7_speaks
set_option maxRecDepth 20000 in
theorem ggL_law_X6_sinks : GoodIn wsL_law wsX6_sinks := goodIn_r _ [634, 16, 17, 368, 369, 370, 15, 371, 59, 113, 2, 114, 245, 246, 247, 248, 44, 54, 55, 56, 57, 45, 46, 47, 48, 58, 60, 61, 49, 635, 636, 637, 638, 468, 373, 374, 375, 464, 465, 466, 467, 469, 394, 395, 396, 397, 398, 399, 400, 470, 471, 472, 473, 474, 475, 476, 477, 478, 479, 480, 481, 482, 483, 402, 403, 404, 484, 485, 486, 487, 488, 489, 490, 406, 407, 408, 228, 229, 230, 231, 1079, 1080, 1081, 1082, 1083, 1084, 1085, 1086, 1087, 1114, 1115, 1116, 1117, 1118, 1119, 1120, 1121, 1122, 1123] (by decide +kernel) (by decide +kernel)
set_option maxRecDepth 20000 in
theorem gL_law_X6_sinks : GoodIn wsL_law (wsV RL 88 RX6 yX6_sinks wsX6_sinks) := goodIn_app (goodIn_of _ (by decide +kernel)) ggL_law_X6_sinks
set_option maxRecDepth 20000 in
theorem ggL_law_X7_sinks : GoodIn wsL_law wsX7_sinks := goodIn_r _ [642, 89, 91, 381, 382, 383, 5, 384, 258, 259, 260, 385, 386, 387, 388, 500, 501, 502, 503, 414, 415, 416, 417, 418, 419, 420, 421, 504, 505, 506, 507, 508, 509, 510, 422, 423, 424, 425, 511, 512, 513, 514, 515, 426, 427, 428, 429, 516, 517, 518, 1088, 1089, 1090, 1091, 1092, 1093, 1094, 1095, 1096, 1097, 1098, 1099, 1100, 1101, 1102, 1103, 1104, 1105, 1106, 1107, 1108, 1109, 1110, 1111, 1112, 1113] (by decide +kernel) (by decide +kernel)
set_option maxRecDepth 20000 in
theorem gL_law_X7_sinks : GoodIn wsL_law (wsV RL 91 RX7 yX7_sinks wsX7_sinks) := goodIn_app (goodIn_of _ (by decide +kernel)) ggL_law_X7_sinks
set_option maxRecDepth 20000 in
theorem ggL_law_X6_whole : GoodIn wsL_law wsX6_whole := goodIn_r _ [646, 17, 16, 245, 246, 247, 15, 248, 44, 54, 55, 56, 57, 45, 46, 47, 48, 58, 59, 60, 61, 49, 647, 648, 649, 650, 464, 465, 466, 467, 468, 373, 374, 375, 469, 394, 395, 396, 397, 398, 399, 400, 470, 2, 471, 472, 473, 474, 475, 476, 477, 478, 479, 480, 481, 482, 483, 402, 403, 404, 484, 485, 486, 487, 488, 489, 490, 406, 407, 408, 228, 229, 230, 231, 1079, 1080, 1081, 1082, 1083, 1084, 1085, 1086, 1087, 1114, 1115, 1116, 1117, 1118, 1119, 1120, 1121, 1122, 1123] (by decide +kernel) (by decide +kernel)
set_option maxRecDepth 20000 in
theorem gL_law_X6_whole : GoodIn wsL_law (wsV RL 92 RX6 yX6_whole wsX6_whole) := goodIn_app (goodIn_of _ (by decide +kernel)) ggL_law_X6_whole
set_option maxRecDepth 20000 in
theorem ggL_law_X7_whole : GoodIn wsL_law wsX7_whole := goodIn_r _ [654, 89, 91, 258, 259, 5, 260, 500, 501, 502, 503, 414, 415, 416, 417, 385, 386, 387, 388, 418, 419, 420, 421, 504, 505, 506, 507, 508, 509, 510, 422, 423, 424, 425, 511, 512, 513, 514, 515, 426, 427, 428, 429, 516, 517, 518, 1088, 1089, 1090, 1091, 1092, 1093, 1094, 1095, 1096, 1097, 1098, 1099, 1100, 1101, 1102, 1103, 1104, 1105, 1106, 1107, 1108, 1109, 1110, 1111, 1112, 1113] (by decide +kernel) (by decide +kernel)
set_option maxRecDepth 20000 in
theorem gL_law_X7_whole : GoodIn wsL_law (wsV RL 95 RX7 yX7_whole wsX7_whole) := goodIn_app (goodIn_of _ (by decide +kernel)) ggL_law_X7_whole
set_option maxRecDepth 20000 in
theorem ggL_law_X6_tale : GoodIn wsL_law wsX6_tale := goodIn_r _ [658, 112, 113, 2, 114, 554, 555, 556, 557, 17, 16, 245, 246, 247, 15, 248, 44, 54, 55, 56, 57, 45, 46, 47, 48, 58, 59, 60, 61, 49, 460, 461, 462, 463, 464, 465, 466, 467, 468, 373, 374, 375, 469, 394, 395, 396, 397, 398, 399, 400, 470, 471, 472, 473, 474, 475, 476, 477, 478, 479, 480, 481, 482, 483, 402, 403, 404, 484, 485, 486, 487, 488, 489, 490, 406, 407, 408, 228, 229, 230, 231, 1079, 1080, 1081, 1082, 1083, 1084, 1085, 1086, 1087, 1114, 1115, 1116, 1117, 1118, 1119, 1120, 1121, 1122, 1123] (by decide +kernel) (by decide +kernel)
set_option maxRecDepth 20000 in
theorem gL_law_X6_tale : GoodIn wsL_law (wsV RL 96 RX6 yX6_tale wsX6_tale) := goodIn_app (goodIn_of _ (by decide +kernel)) ggL_law_X6_tale
set_option maxRecDepth 20000 in
theorem ggL_law_X7_tale : GoodIn wsL_law wsX7_tale := goodIn_r _ [662, 495, 122, 123, 5, 124, 563, 564, 565, 566, 89, 91, 258, 259, 260, 496, 497, 498, 499, 500, 501, 502, 503, 414, 415, 416, 417, 385, 386, 387, 388, 418, 419, 420, 421, 504, 505, 506, 507, 508, 509, 510, 422, 423, 424, 425, 511, 512, 513, 514, 515, 426, 427, 428, 429, 516, 517, 518, 1088, 1089, 1090, 1091, 1092, 1093, 1094, 1095, 1096, 1097, 1098, 1099, 1100, 1101, 1102, 1103, 1104, 1105, 1106, 1107, 1108, 1109, 1110, 1111, 1112, 1113] (by decide +kernel) (by decide +kernel)
set_option maxRecDepth 20000 in
theorem gL_law_X7_tale : GoodIn wsL_law (wsV RL 99 RX7 yX7_tale wsX7_tale) := goodIn_app (goodIn_of _ (by decide +kernel)) ggL_law_X7_tale
set_option maxRecDepth 20000 in
theorem ggL_law_X6_pieceFor : GoodIn wsL_law wsX6_pieceFor := goodIn_r _ [666, 16, 17, 365, 368, 369, 370, 15, 371, 59, 113, 2, 114, 112, 245, 246, 247, 248, 44, 54, 55, 56, 57, 45, 46, 47, 48, 58, 60, 61, 49, 460, 461, 462, 463, 464, 465, 466, 467, 468, 373, 374, 375, 469, 394, 395, 396, 397, 398, 399, 400, 470, 471, 472, 473, 474, 475, 476, 477, 478, 479, 480, 481, 482, 483, 402, 403, 404, 484, 485, 486, 487, 488, 489, 490, 406, 407, 408, 228, 229, 230, 231, 1079, 1080, 1081, 1082, 1083, 1084, 1085, 1086, 1087, 1114, 1115, 1116, 1117, 1118, 1119, 1120, 1121, 1122, 1123] (by decide +kernel) (by decide +kernel)
set_option maxRecDepth 20000 in
theorem gL_law_X6_pieceFor : GoodIn wsL_law (wsV RL 100 RX6 yX6_pieceFor wsX6_pieceFor) := goodIn_app (goodIn_of _ (by decide +kernel)) ggL_law_X6_pieceFor
set_option maxRecDepth 20000 in
theorem ggL_law_X7_pieceFor : GoodIn wsL_law wsX7_pieceFor := goodIn_r _ [670, 381, 382, 383, 5, 384, 89, 671, 672, 673, 674, 122, 123, 124, 675, 676, 677, 678, 563, 564, 565, 566, 91, 258, 259, 260, 496, 497, 498, 499, 500, 501, 502, 503, 414, 415, 416, 417, 385, 386, 387, 388, 418, 419, 420, 421, 504, 505, 506, 507, 508, 509, 510, 422, 423, 424, 425, 511, 512, 513, 514, 515, 426, 427, 428, 429, 516, 517, 518, 679, 680, 681, 1088, 1089, 1090, 1091, 1092, 1093, 1094, 1095, 1096, 1097, 1098, 1099, 1100, 1101, 1102, 1103, 1104, 1105, 1106, 1107, 1108, 1109, 1110, 1111, 1112, 1113] (by decide +kernel) (by decide +kernel)
set_option maxRecDepth 20000 in
theorem gL_law_X7_pieceFor : GoodIn wsL_law (wsV RL 103 RX7 yX7_pieceFor wsX7_pieceFor) := goodIn_app (goodIn_of _ (by decide +kernel)) ggL_law_X7_pieceFor
