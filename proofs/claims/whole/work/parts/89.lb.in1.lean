set_option maxRecDepth 20000 in
theorem inLr1 : ∀ w ∈ wsL_law_r1, w ∈ lw_tbl := zin _ [87, 88, 71, 804, 805, 79, 1323, 89, 90, 91, 92, 93, 94, 95, 96, 72, 274, 275, 276, 156, 157, 74, 278, 185] (by decide +kernel)
set_option maxRecDepth 20000 in
theorem inLr2 : ∀ w ∈ wsL_law_r2, w ∈ lw_tbl := zin _ [186, 75, 279, 200, 280, 202, 281, 204, 205, 76, 282, 231, 77, 252, 78, 97, 98, 99, 100, 155, 110, 113, 115, 117] (by decide +kernel)
set_option maxRecDepth 20000 in
theorem inLr3 : ∀ w ∈ wsL_law_r3, w ∈ lw_tbl := zin _ [120, 132, 101, 102, 103, 104, 107, 109, 108, 73, 122, 124, 127, 129, 159, 160, 161, 184, 162, 188, 189, 190, 191, 207] (by decide +kernel)
set_option maxRecDepth 20000 in
theorem inLr4 : ∀ w ∈ wsL_law_r4, w ∈ lw_tbl := zin _ [208, 209, 210, 233, 234, 235, 251, 236, 238, 254, 255, 256, 257, 806, 807, 808, 809, 814, 815, 816, 817, 819, 826, 828] (by decide +kernel)
set_option maxRecDepth 20000 in
theorem inLr5 : ∀ w ∈ wsL_law_r5, w ∈ lw_tbl := zin _ [829, 830, 831, 832, 833, 834, 810, 812, 22, 813, 302, 303, 304, 305, 164, 163, 306, 307, 308, 893, 894, 895, 896, 897] (by decide +kernel)
set_option maxRecDepth 20000 in
theorem inLr6 : ∀ w ∈ wsL_law_r6, w ∈ lw_tbl := zin _ [820, 901, 898, 899, 900, 309, 310, 311, 312, 133, 166, 194, 126, 313, 314, 315, 316, 317, 168, 169, 318, 320, 0, 321] (by decide +kernel)
set_option maxRecDepth 20000 in
theorem inLr7 : ∀ w ∈ wsL_law_r7, w ∈ lw_tbl := zin _ [167, 165, 322, 324, 1, 325, 326, 328, 2, 329, 125, 170, 130, 111, 330, 332, 3, 333, 335, 337, 4, 338, 339, 340] (by decide +kernel)
set_option maxRecDepth 20000 in
theorem inLr8 : ∀ w ∈ wsL_law_r8, w ∈ lw_tbl := zin _ [341, 80, 342, 1324, 343, 344, 345, 346, 347, 1325, 349, 350, 351, 352, 353, 354, 355, 356, 357, 358, 81, 359, 360, 361] (by decide +kernel)
set_option maxRecDepth 20000 in
theorem inLr9 : ∀ w ∈ wsL_law_r9, w ∈ lw_tbl := zin _ [362, 363, 365, 366, 82, 367, 368, 369, 83, 370, 371, 372, 373, 374, 375, 376, 377, 378, 379, 380, 381, 383, 385, 392] (by decide +kernel)
set_option maxRecDepth 20000 in
theorem inLr10 : ∀ w ∈ wsL_law_r10, w ∈ lw_tbl := zin _ [394, 5, 395, 118, 397, 399, 6, 400, 401, 402, 403, 404, 405, 406, 407, 408, 411, 412, 414, 7, 415, 417, 419, 8] (by decide +kernel)
set_option maxRecDepth 20000 in
theorem inLr11 : ∀ w ∈ wsL_law_r11, w ∈ lw_tbl := zin _ [420, 421, 423, 9, 424, 431, 432, 433, 434, 902, 903, 904, 905, 823, 825, 821, 822, 827, 906, 907, 908, 909, 911, 23] (by decide +kernel)
set_option maxRecDepth 20000 in
theorem inLr12 : ∀ w ∈ wsL_law_r12, w ∈ lw_tbl := zin _ [912, 824, 913, 915, 24, 916, 917, 918, 919, 920, 921, 922, 923, 925, 25, 926, 927, 929, 26, 930, 931, 933, 27, 934] (by decide +kernel)
set_option maxRecDepth 20000 in
theorem inLr13 : ∀ w ∈ wsL_law_r13, w ∈ lw_tbl := zin _ [935, 937, 28, 938, 939, 941, 29, 942, 943, 945, 30, 946, 947, 949, 31, 950, 951, 953, 32, 954, 955, 957, 33, 958] (by decide +kernel)
set_option maxRecDepth 20000 in
theorem inLr14 : ∀ w ∈ wsL_law_r14, w ∈ lw_tbl := zin _ [959, 961, 34, 962, 963, 965, 35, 966, 967, 968, 969, 435, 436, 437, 438, 439, 112, 970, 971, 972, 973, 974, 975, 977] (by decide +kernel)
set_option maxRecDepth 20000 in
theorem inLr15 : ∀ w ∈ wsL_law_r15, w ∈ lw_tbl := zin _ [36, 978, 440, 441, 442, 443, 979, 980, 981, 982, 444, 445, 446, 447, 448, 983, 984, 985, 986, 987, 988, 989, 990, 991] (by decide +kernel)
set_option maxRecDepth 20000 in
theorem inLr16 : ∀ w ∈ wsL_law_r16, w ∈ lw_tbl := zin _ [449, 450, 451, 452, 114, 116, 119, 121, 453, 454, 455, 456, 458, 459, 460, 461, 992, 993, 994, 995, 1000, 996, 998, 37] (by decide +kernel)
set_option maxRecDepth 20000 in
theorem inLr17 : ∀ w ∈ wsL_law_r17, w ∈ lw_tbl := zin _ [999, 1001, 1003, 38, 1004, 462, 463, 464, 465, 466, 467, 468, 469, 470, 471, 472, 473, 474, 475, 476, 477, 478, 479, 480] (by decide +kernel)
set_option maxRecDepth 20000 in
theorem inLr18 : ∀ w ∈ wsL_law_r18, w ∈ lw_tbl := zin _ [481, 1005, 1006, 1007, 1008, 1009, 1010, 1012, 39, 1013, 1014, 1016, 40, 1017, 1018, 1020, 41, 1021, 1022, 1024, 42, 1025, 482, 483] (by decide +kernel)
set_option maxRecDepth 20000 in
theorem inLr19 : ∀ w ∈ wsL_law_r19, w ∈ lw_tbl := zin _ [484, 485, 1026, 1027, 1028, 1029, 486, 487, 488, 489, 1030, 1031, 1032, 1033, 490, 491, 492, 493, 494, 1034, 1035, 1036, 1037, 1038] (by decide +kernel)
set_option maxRecDepth 20000 in
theorem inLr20 : ∀ w ∈ wsL_law_r20, w ∈ lw_tbl := zin _ [495, 496, 497, 498, 499, 500, 501, 502, 503, 504, 505, 506, 507, 508, 510, 511, 512, 513, 84, 514, 515, 516, 517, 518] (by decide +kernel)
set_option maxRecDepth 20000 in
theorem inLr21 : ∀ w ∈ wsL_law_r21, w ∈ lw_tbl := zin _ [520, 10, 521, 522, 523, 525, 11, 526, 528, 529, 527, 1039, 1040, 1041, 1042, 1043, 1044, 1046, 43, 1047, 1048, 1050, 44, 1051] (by decide +kernel)
set_option maxRecDepth 20000 in
theorem inLr22 : ∀ w ∈ wsL_law_r22, w ∈ lw_tbl := zin _ [1052, 1053, 1054, 1055, 1057, 45, 1058, 1059, 1061, 46, 1062, 1063, 1064, 1065, 1066, 530, 531, 532, 533, 1067, 1068, 1069, 1070, 534] (by decide +kernel)
set_option maxRecDepth 20000 in
theorem inLr23 : ∀ w ∈ wsL_law_r23, w ∈ lw_tbl := zin _ [535, 536, 537, 131, 538, 539, 540, 541, 542, 544, 12, 545, 546, 1071, 1072, 1073, 1074, 1075, 1077, 47, 1078, 1079, 547, 548] (by decide +kernel)
