theorem dJ6_bitCount_0f7a4_28 : decode cJ6_bitCount_0f7a4 28 = .ok (.iadd, 1) := by decide +kernel
theorem dJ6_bitCount_0f7a4_29 : decode cJ6_bitCount_0f7a4 29 = .ok (.ldc_w 267, 3) := by decide +kernel
theorem dJ6_bitCount_0f7a4_32 : decode cJ6_bitCount_0f7a4 32 = .ok (.iand, 1) := by decide +kernel
theorem dJ6_bitCount_0f7a4_33 : decode cJ6_bitCount_0f7a4 33 = .ok (.istore_n 0, 1) := by decide +kernel
theorem dJ6_bitCount_0f7a4_34 : decode cJ6_bitCount_0f7a4 34 = .ok (.iload_n 0, 1) := by decide +kernel
theorem dJ6_bitCount_0f7a4_35 : decode cJ6_bitCount_0f7a4 35 = .ok (.iload_n 0, 1) := by decide +kernel
theorem dJ6_bitCount_0f7a4_36 : decode cJ6_bitCount_0f7a4 36 = .ok (.bipush 8, 2) := by decide +kernel
theorem dJ6_bitCount_0f7a4_38 : decode cJ6_bitCount_0f7a4 38 = .ok (.iushr, 1) := by decide +kernel
theorem dJ6_bitCount_0f7a4_39 : decode cJ6_bitCount_0f7a4 39 = .ok (.iadd, 1) := by decide +kernel
theorem dJ6_bitCount_0f7a4_40 : decode cJ6_bitCount_0f7a4 40 = .ok (.istore_n 0, 1) := by decide +kernel
theorem dJ6_bitCount_0f7a4_41 : decode cJ6_bitCount_0f7a4 41 = .ok (.iload_n 0, 1) := by decide +kernel
theorem dJ6_bitCount_0f7a4_42 : decode cJ6_bitCount_0f7a4 42 = .ok (.iload_n 0, 1) := by decide +kernel
theorem dJ6_bitCount_0f7a4_43 : decode cJ6_bitCount_0f7a4 43 = .ok (.bipush 16, 2) := by decide +kernel
theorem dJ6_bitCount_0f7a4_45 : decode cJ6_bitCount_0f7a4 45 = .ok (.iushr, 1) := by decide +kernel
theorem dJ6_bitCount_0f7a4_46 : decode cJ6_bitCount_0f7a4 46 = .ok (.iadd, 1) := by decide +kernel
theorem dJ6_bitCount_0f7a4_47 : decode cJ6_bitCount_0f7a4 47 = .ok (.istore_n 0, 1) := by decide +kernel
theorem dJ6_bitCount_0f7a4_48 : decode cJ6_bitCount_0f7a4 48 = .ok (.iload_n 0, 1) := by decide +kernel
theorem dJ6_bitCount_0f7a4_49 : decode cJ6_bitCount_0f7a4 49 = .ok (.bipush 63, 2) := by decide +kernel
theorem dJ6_bitCount_0f7a4_51 : decode cJ6_bitCount_0f7a4 51 = .ok (.iand, 1) := by decide +kernel
theorem dJ6_bitCount_0f7a4_52 : decode cJ6_bitCount_0f7a4 52 = .ok (.ireturn, 1) := by decide +kernel
theorem dJ9_min_7cf53_0 : decode cJ9_min_7cf53 0 = .ok (.iload_n 0, 1) := by decide +kernel
theorem dJ9_min_7cf53_1 : decode cJ9_min_7cf53 1 = .ok (.iload_n 1, 1) := by decide +kernel
theorem dJ9_min_7cf53_2 : decode cJ9_min_7cf53 2 = .ok (.if_icmp .gt 7, 3) := by decide +kernel
theorem dJ9_min_7cf53_5 : decode cJ9_min_7cf53 5 = .ok (.iload_n 0, 1) := by decide +kernel
theorem dJ9_min_7cf53_6 : decode cJ9_min_7cf53 6 = .ok (.goto 4, 3) := by decide +kernel
theorem dJ9_min_7cf53_9 : decode cJ9_min_7cf53 9 = .ok (.iload_n 1, 1) := by decide +kernel
theorem dJ9_min_7cf53_10 : decode cJ9_min_7cf53 10 = .ok (.ireturn, 1) := by decide +kernel
set_option maxRecDepth 20000 in
theorem ggL_law_X6_init : GoodIn wsL_law wsX6_init := goodIn_r _ [8, 9, 10, 11, 12, 13, 14, 15, 16, 17, 18, 19, 20, 21, 22, 23, 24, 25, 26, 27, 28, 29, 30, 31, 32, 33, 34, 35, 36, 37, 38, 39, 40, 41, 42, 43, 44, 45, 46, 47, 48, 49, 50, 51, 52, 53, 54, 55, 56, 57, 58, 59, 60, 61, 62, 63, 64, 65, 66, 67, 68, 69, 70, 71, 72, 73, 74, 75, 76, 77, 78, 79, 80, 81, 82, 83, 84, 85, 86, 87, 88, 89, 90, 91, 1020, 1021, 1022, 1023, 1024, 1025, 1026, 976, 977, 978, 979, 980, 981, 982, 983, 984, 985, 1027, 1028, 1029, 1030, 1031, 1032, 1033, 1034, 1035, 1036, 1037, 1038, 1039, 1040, 1041, 1042, 1043, 1044, 1045, 1046, 1047, 1048, 1049, 1050, 1051, 1052, 1053, 1054, 1055, 1056, 1057, 1058, 1059, 1060, 1061, 1062, 1063, 1064, 1065, 1066, 1067, 1068] (by decide +kernel) (by decide +kernel)
set_option maxRecDepth 20000 in
theorem gL_law_X6_init : GoodIn wsL_law (wsX6_init) := ggL_law_X6_init
set_option maxRecDepth 20000 in
theorem ggL_law_X7_init : GoodIn wsL_law wsX7_init := goodIn_r _ [94, 95, 10, 11, 45, 96, 97, 98, 99, 100, 101, 102, 103, 104, 105, 106, 107, 108, 109, 110, 111, 112, 113, 114, 115, 116, 117, 118, 119, 120, 121, 5, 122, 123, 124, 125, 126, 127, 128, 129, 130, 986, 987, 988, 989, 990, 991, 992, 993, 994, 995, 996, 997, 998, 999, 1000, 1001, 1002, 1003, 1004, 1005, 1006, 1007, 1008, 1009, 1010, 1011, 1012, 1013, 1014, 1015, 1016, 1017, 1018, 1019] (by decide +kernel) (by decide +kernel)
set_option maxRecDepth 20000 in
theorem gL_law_X7_init : GoodIn wsL_law (wsX7_init) := ggL_law_X7_init
set_option maxRecDepth 20000 in
theorem ggL_law_X6_type : GoodIn wsL_law wsX6_type := goodIn_r _ [134, 15, 135, 136, 137, 138, 14, 139, 140, 46, 976, 977, 978, 979, 980, 981, 982, 983, 984, 985, 1020, 1021, 1022, 1023, 1024, 1025, 1026] (by decide +kernel) (by decide +kernel)
set_option maxRecDepth 20000 in
theorem gL_law_X6_type : GoodIn wsL_law (wsV RL 13 RX6 yX6_type wsX6_type) := goodIn_app (goodIn_of _ (by decide +kernel)) ggL_law_X6_type
set_option maxRecDepth 20000 in
theorem ggL_law_X7_type : GoodIn wsL_law wsX7_type := goodIn_r _ [144, 145, 146, 96, 147, 148, 5, 149, 986, 987, 988, 989, 990, 991, 992, 993, 994, 995, 996, 997, 998, 999, 1000, 1001, 1002, 1003, 1004, 1005, 1006, 1007, 1008, 1009, 1010, 1011, 1012, 1013, 1014, 1015, 1016, 1017, 1018, 1019] (by decide +kernel) (by decide +kernel)
set_option maxRecDepth 20000 in
theorem gL_law_X7_type : GoodIn wsL_law (wsV RL 17 RX7 yX7_type wsX7_type) := goodIn_app (goodIn_of _ (by decide +kernel)) ggL_law_X7_type
set_option maxRecDepth 20000 in
theorem ggL_law_X6_clear : GoodIn wsL_law wsX6_clear := goodIn_r _ [153, 15, 135, 976, 977, 978, 979, 980, 981, 982, 983, 984, 985, 1020, 1021, 1022, 1023, 1024, 1025, 1026] (by decide +kernel) (by decide +kernel)
set_option maxRecDepth 20000 in
theorem gL_law_X6_clear : GoodIn wsL_law (wsV RL 18 RX6 yX6_clear wsX6_clear) := goodIn_app (goodIn_of _ (by decide +kernel)) ggL_law_X6_clear
set_option maxRecDepth 20000 in
theorem ggL_law_X7_clear : GoodIn wsL_law wsX7_clear := goodIn_r _ [157, 146, 986, 987, 988, 989, 990, 991, 992, 993, 994, 995, 996, 997, 998, 999, 1000, 1001, 1002, 1003, 1004, 1005, 1006, 1007, 1008, 1009, 1010, 1011, 1012, 1013, 1014, 1015, 1016, 1017, 1018, 1019] (by decide +kernel) (by decide +kernel)
set_option maxRecDepth 20000 in
theorem gL_law_X7_clear : GoodIn wsL_law (wsV RL 22 RX7 yX7_clear wsX7_clear) := goodIn_app (goodIn_of _ (by decide +kernel)) ggL_law_X7_clear
set_option maxRecDepth 20000 in
theorem ggL_law_X6_town : GoodIn wsL_law wsX6_town := goodIn_r _ [161, 15, 20, 19, 135, 24, 35, 39, 162, 27, 163, 164, 165, 14, 166, 167, 168, 169, 170, 171, 172, 18, 173, 174, 175, 176, 177, 60, 178, 179, 180, 181, 182, 140, 46, 183, 184, 185, 186, 187, 188, 189, 190, 191, 192, 193, 194, 195, 196, 197, 198, 199, 200, 201, 202, 203, 204, 205, 206, 207, 208, 209, 210, 211, 212, 213, 214, 215, 216, 217, 218, 219, 220, 221, 222, 223, 224, 225, 226, 227, 228, 229, 230, 231, 232, 233, 234, 235, 236, 237, 238, 239, 240, 241, 242, 243, 244, 245, 246, 247, 248, 249, 250, 251, 57, 58, 252, 253, 254, 23, 255, 256, 257, 258, 69, 259, 260, 261, 262, 34, 263, 264, 265, 976, 977, 978, 979, 980, 981, 982, 983, 984, 985, 1020, 1021, 1022, 1023, 1024, 1025, 1026, 1062, 1063, 1064, 1065, 1066, 1067, 1068, 1027, 1028, 1029, 1030, 1031, 1032, 1033, 1034, 1035, 1036, 1037, 1038, 1039, 1040, 1041, 1042, 1043, 1044, 1045, 1046, 1047, 1048, 1049, 1050, 1056, 1057, 1058, 1059, 1060, 1061] (by decide +kernel) (by decide +kernel)
set_option maxRecDepth 20000 in
theorem gL_law_X6_town : GoodIn wsL_law (wsV RL 23 RX6 yX6_town wsX6_town) := goodIn_app (goodIn_of _ (by decide +kernel)) ggL_law_X6_town
set_option maxRecDepth 20000 in
theorem ggL_law_X7_town : GoodIn wsL_law wsX7_town := goodIn_r _ [269, 270, 271, 272, 146, 119, 120, 121, 5, 122, 97, 273, 274, 275, 276, 96, 277, 278, 279, 280, 281, 147, 148, 149, 282, 283, 284, 285, 286, 287, 288, 289, 290, 291, 292, 293, 294, 295, 296, 297, 298, 299, 300, 301, 302, 303, 304, 305, 306, 307, 308, 309, 310, 311, 312, 313, 314, 315, 316, 317, 318, 319, 320, 321, 322, 323, 324, 325, 326, 327, 123, 124, 125, 126, 98, 99, 127, 128, 129, 130, 118, 986, 987, 988, 989, 990, 991, 992, 993, 994, 995, 996, 997, 998, 999, 1000, 1001, 1002, 1003, 1004, 1005, 1006, 1007, 1008, 1009, 1010, 1011, 1012, 1013, 1014, 1015, 1016, 1017, 1018, 1019] (by decide +kernel) (by decide +kernel)
set_option maxRecDepth 20000 in
theorem gL_law_X7_town : GoodIn wsL_law (wsV RL 26 RX7 yX7_town wsX7_town) := goodIn_app (goodIn_of _ (by decide +kernel)) ggL_law_X7_town
set_option maxRecDepth 20000 in
theorem ggL_law_X6_corner : GoodIn wsL_law wsX6_corner := goodIn_r _ [331, 19, 332, 333, 334, 335, 18, 336, 174, 976, 977, 978, 979, 980, 981, 982, 983, 984, 985, 1027, 1028, 1029, 1030, 1031, 1032, 1033, 1034, 1035, 1036, 1037, 1038, 1039, 1040, 1041] (by decide +kernel) (by decide +kernel)
set_option maxRecDepth 20000 in
theorem gL_law_X6_corner : GoodIn wsL_law (wsV RL 27 RX6 yX6_corner wsX6_corner) := goodIn_app (goodIn_of _ (by decide +kernel)) ggL_law_X6_corner
set_option maxRecDepth 20000 in
theorem ggL_law_X7_corner : GoodIn wsL_law wsX7_corner := goodIn_r _ [340, 98, 341, 342, 343, 5, 344, 147, 148, 149, 986, 987, 988, 989, 990, 991, 992, 993, 994, 995, 996, 997, 998, 999, 1000, 1001, 1002, 1003, 1004, 1005, 1006, 1007, 1008, 1009, 1010, 1011, 1012, 1013, 1014, 1015, 1016, 1017, 1018, 1019] (by decide +kernel) (by decide +kernel)
set_option maxRecDepth 20000 in
theorem gL_law_X7_corner : GoodIn wsL_law (wsV RL 30 RX7 yX7_corner wsX7_corner) := goodIn_app (goodIn_of _ (by decide +kernel)) ggL_law_X7_corner
set_option maxRecDepth 20000 in
theorem ggL_law_X6_street : GoodIn wsL_law wsX6_street := goodIn_r _ [348, 19, 349, 350, 351, 352, 353, 354, 18, 355, 175, 976, 977, 978, 979, 980, 981, 982, 983, 984, 985, 1027, 1028, 1029, 1030, 1031, 1032, 1033, 1034, 1035, 1036, 1037, 1038, 1039, 1040, 1041] (by decide +kernel) (by decide +kernel)
set_option maxRecDepth 20000 in
theorem gL_law_X6_street : GoodIn wsL_law (wsV RL 31 RX6 yX6_street wsX6_street) := goodIn_app (goodIn_of _ (by decide +kernel)) ggL_law_X6_street
set_option maxRecDepth 20000 in
theorem ggL_law_X7_street : GoodIn wsL_law wsX7_street := goodIn_r _ [359, 360, 98, 361, 362, 363, 5, 364, 147, 148, 149, 986, 987, 988, 989, 990, 991, 992, 993, 994, 995, 996, 997, 998, 999, 1000, 1001, 1002, 1003, 1004, 1005, 1006, 1007, 1008, 1009, 1010, 1011, 1012, 1013, 1014, 1015, 1016, 1017, 1018, 1019] (by decide +kernel) (by decide +kernel)
set_option maxRecDepth 20000 in
theorem gL_law_X7_street : GoodIn wsL_law (wsV RL 35 RX7 yX7_street wsX7_street) := goodIn_app (goodIn_of _ (by decide +kernel)) ggL_law_X7_street
set_option maxRecDepth 20000 in
theorem ggL_law_X6_guide : GoodIn wsL_law wsX6_guide := goodIn_r _ [368, 19, 369, 370, 371, 372, 373, 374, 375, 18, 376, 176, 976, 977, 978, 979, 980, 981, 982, 983, 984, 985, 1027, 1028, 1029, 1030, 1031, 1032, 1033, 1034, 1035, 1036, 1037, 1038, 1039, 1040, 1041] (by decide +kernel) (by decide +kernel)
set_option maxRecDepth 20000 in
theorem gL_law_X6_guide : GoodIn wsL_law (wsV RL 36 RX6 yX6_guide wsX6_guide) := goodIn_app (goodIn_of _ (by decide +kernel)) ggL_law_X6_guide
set_option maxRecDepth 20000 in
theorem ggL_law_X7_guide : GoodIn wsL_law wsX7_guide := goodIn_r _ [380, 381, 382, 383, 384, 5, 385, 98, 147, 148, 149, 386, 387, 388, 389, 390, 391, 392, 393, 394, 395, 396, 397, 398, 399, 400, 401, 986, 987, 988, 989, 990, 991, 992, 993, 994, 995, 996, 997, 998, 999, 1000, 1001, 1002, 1003, 1004, 1005, 1006, 1007, 1008, 1009, 1010, 1011, 1012, 1013, 1014, 1015, 1016, 1017, 1018, 1019] (by decide +kernel) (by decide +kernel)
set_option maxRecDepth 20000 in
theorem gL_law_X7_guide : GoodIn wsL_law (wsV RL 39 RX7 yX7_guide wsX7_guide) := goodIn_app (goodIn_of _ (by decide +kernel)) ggL_law_X7_guide
set_option maxRecDepth 20000 in
theorem ggL_law_X6_fog : GoodIn wsL_law wsX6_fog := goodIn_r _ [405, 19, 406, 407, 408, 18, 409, 177, 59, 976, 977, 978, 979, 980, 981, 982, 983, 984, 985, 1027, 1028, 1029, 1030, 1031, 1032, 1033, 1034, 1035, 1036, 1037, 1038, 1039, 1040, 1041] (by decide +kernel) (by decide +kernel)
set_option maxRecDepth 20000 in
theorem gL_law_X6_fog : GoodIn wsL_law (wsV RL 40 RX6 yX6_fog wsX6_fog) := goodIn_app (goodIn_of _ (by decide +kernel)) ggL_law_X6_fog
set_option maxRecDepth 20000 in
theorem ggL_law_X7_fog : GoodIn wsL_law wsX7_fog := goodIn_r _ [413, 414, 147, 148, 5, 149, 415, 416, 417, 418, 98, 986, 987, 988, 989, 990, 991, 992, 993, 994, 995, 996, 997, 998, 999, 1000, 1001, 1002, 1003, 1004, 1005, 1006, 1007, 1008, 1009, 1010, 1011, 1012, 1013, 1014, 1015, 1016, 1017, 1018, 1019] (by decide +kernel) (by decide +kernel)
set_option maxRecDepth 20000 in
theorem gL_law_X7_fog : GoodIn wsL_law (wsV RL 43 RX7 yX7_fog wsX7_fog) := goodIn_app (goodIn_of _ (by decide +kernel)) ggL_law_X7_fog
set_option maxRecDepth 20000 in
theorem ggL_law_X6_hires : GoodIn wsL_law wsX6_hires := goodIn_r _ [422, 19, 24, 423, 424, 425, 426, 373, 374, 375, 18, 376, 176, 427, 428, 429, 2, 430, 431, 432, 433, 434, 435, 58, 436, 437, 334, 335, 336, 174, 438, 439, 440, 23, 441, 256, 257, 258, 69, 442, 443, 444, 445, 259, 65, 66, 67, 68, 446, 447, 448, 449, 450, 451, 452, 453, 976, 977, 978, 979, 980, 981, 982, 983, 984, 985, 1042, 1043, 1044, 1045, 1046, 1047, 1048, 1049, 1050, 1027, 1028, 1029, 1030, 1031, 1032, 1033, 1034, 1035, 1036, 1037, 1038, 1039, 1040, 1041] (by decide +kernel) (by decide +kernel)
set_option maxRecDepth 20000 in
theorem gL_law_X6_hires : GoodIn wsL_law (wsV RL 44 RX6 yX6_hires wsX6_hires) := goodIn_app (goodIn_of _ (by decide +kernel)) ggL_law_X6_hires
set_option maxRecDepth 20000 in
theorem ggL_law_X7_hires : GoodIn wsL_law wsX7_hires := goodIn_r _ [457, 99, 98, 382, 383, 384, 5, 385, 147, 148, 149, 458, 459, 460, 461, 462, 463, 464, 465, 398, 399, 400, 401, 466, 467, 468, 469, 130, 100, 986, 987, 988, 989, 990, 991, 992, 993, 994, 995, 996, 997, 998, 999, 1000, 1001, 1002, 1003, 1004, 1005, 1006, 1007, 1008, 1009, 1010, 1011, 1012, 1013, 1014, 1015, 1016, 1017, 1018, 1019] (by decide +kernel) (by decide +kernel)
set_option maxRecDepth 20000 in
theorem gL_law_X7_hires : GoodIn wsL_law (wsV RL 47 RX7 yX7_hires wsX7_hires) := goodIn_app (goodIn_of _ (by decide +kernel)) ggL_law_X7_hires
set_option maxRecDepth 20000 in
theorem ggL_law_X6_leaves : GoodIn wsL_law wsX6_leaves := goodIn_r _ [473, 24, 423, 425, 438, 439, 440, 23, 441, 256, 257, 258, 69, 442, 443, 444, 445, 259, 65, 66, 67, 68, 446, 447, 448, 449, 450, 451, 452, 453, 976, 977, 978, 979, 980, 981, 982, 983, 984, 985, 1042, 1043, 1044, 1045, 1046, 1047, 1048, 1049, 1050] (by decide +kernel) (by decide +kernel)
set_option maxRecDepth 20000 in
theorem gL_law_X6_leaves : GoodIn wsL_law (wsV RL 48 RX6 yX6_leaves wsX6_leaves) := goodIn_app (goodIn_of _ (by decide +kernel)) ggL_law_X6_leaves
set_option maxRecDepth 20000 in
theorem ggL_law_X7_leaves : GoodIn wsL_law wsX7_leaves := goodIn_r _ [477, 99, 466, 467, 468, 5, 469, 130, 100, 986, 987, 988, 989, 990, 991, 992, 993, 994, 995, 996, 997, 998, 999, 1000, 1001, 1002, 1003, 1004, 1005, 1006, 1007, 1008, 1009, 1010, 1011, 1012, 1013, 1014, 1015, 1016, 1017, 1018, 1019] (by decide +kernel) (by decide +kernel)
set_option maxRecDepth 20000 in
theorem gL_law_X7_leaves : GoodIn wsL_law (wsV RL 51 RX7 yX7_leaves wsX7_leaves) := goodIn_app (goodIn_of _ (by decide +kernel)) ggL_law_X7_leaves
set_option maxRecDepth 20000 in
theorem ggL_law_X6_leads : GoodIn wsL_law wsX6_leads := goodIn_r _ [481, 19, 24, 423, 425, 370, 352, 353, 354, 18, 355, 175, 482, 483, 484, 2, 485, 426, 486, 487, 488, 489, 490, 491, 57, 436, 374, 375, 376, 176, 492, 493, 494, 495, 496, 52, 53, 497, 498, 499, 500, 54, 55, 501, 502, 503, 504, 438, 439, 440, 23, 441, 256, 257, 258, 69, 442, 443, 444, 445, 259, 65, 66, 67, 68, 446, 447, 448, 449, 450, 451, 452, 453, 976, 977, 978, 979, 980, 981, 982, 983, 984, 985, 1042, 1043, 1044, 1045, 1046, 1047, 1048, 1049, 1050, 1027, 1028, 1029, 1030, 1031, 1032, 1033, 1034, 1035, 1036, 1037, 1038, 1039, 1040, 1041] (by decide +kernel) (by decide +kernel)
set_option maxRecDepth 20000 in
theorem gL_law_X6_leads : GoodIn wsL_law (wsV RL 52 RX6 yX6_leads wsX6_leads) := goodIn_app (goodIn_of _ (by decide +kernel)) ggL_law_X6_leads
set_option maxRecDepth 20000 in
theorem ggL_law_X7_leads : GoodIn wsL_law wsX7_leads := goodIn_r _ [508, 99, 361, 362, 363, 5, 364, 98, 147, 148, 149, 509, 510, 511, 512, 513, 514, 515, 516, 517, 394, 395, 396, 397, 518, 519, 520, 521, 386, 387, 388, 389, 390, 391, 392, 393, 466, 467, 468, 469, 130, 100, 986, 987, 988, 989, 990, 991, 992, 993, 994, 995, 996, 997, 998, 999, 1000, 1001, 1002, 1003, 1004, 1005, 1006, 1007, 1008, 1009, 1010, 1011, 1012, 1013, 1014, 1015, 1016, 1017, 1018, 1019] (by decide +kernel) (by decide +kernel)
set_option maxRecDepth 20000 in
theorem gL_law_X7_leads : GoodIn wsL_law (wsV RL 55 RX7 yX7_leads wsX7_leads) := goodIn_app (goodIn_of _ (by decide +kernel)) ggL_law_X7_leads
set_option maxRecDepth 20000 in
theorem ggL_law_X6_alone : GoodIn wsL_law wsX6_alone := goodIn_r _ [525, 19, 24, 425, 351, 352, 353, 354, 18, 355, 175, 526, 527, 528, 2, 529, 423, 426, 493, 494, 495, 496, 52, 53, 530, 531, 532, 533, 534, 407, 408, 409, 177, 59, 501, 502, 503, 504, 438, 439, 440, 23, 441, 256, 257, 258, 69, 442, 443, 444, 445, 259, 65, 66, 67, 68, 446, 447, 448, 449, 450, 451, 452, 453, 976, 977, 978, 979, 980, 981, 982, 983, 984, 985, 1042, 1043, 1044, 1045, 1046, 1047, 1048, 1049, 1050, 1027, 1028, 1029, 1030, 1031, 1032, 1033, 1034, 1035, 1036, 1037, 1038, 1039, 1040, 1041] (by decide +kernel) (by decide +kernel)
set_option maxRecDepth 20000 in
theorem gL_law_X6_alone : GoodIn wsL_law (wsV RL 56 RX6 yX6_alone wsX6_alone) := goodIn_app (goodIn_of _ (by decide +kernel)) ggL_law_X6_alone
set_option maxRecDepth 20000 in
theorem ggL_law_X7_alone : GoodIn wsL_law wsX7_alone := goodIn_r _ [538, 99, 361, 362, 363, 5, 364, 98, 147, 148, 149, 539, 540, 541, 542, 514, 515, 516, 517, 518, 519, 520, 521, 543, 544, 545, 546, 415, 416, 417, 418, 466, 467, 468, 469, 130, 100, 986, 987, 988, 989, 990, 991, 992, 993, 994, 995, 996, 997, 998, 999, 1000, 1001, 1002, 1003, 1004, 1005, 1006, 1007, 1008, 1009, 1010, 1011, 1012, 1013, 1014, 1015, 1016, 1017, 1018, 1019] (by decide +kernel) (by decide +kernel)
set_option maxRecDepth 20000 in
theorem gL_law_X7_alone : GoodIn wsL_law (wsV RL 59 RX7 yX7_alone wsX7_alone) := goodIn_app (goodIn_of _ (by decide +kernel)) ggL_law_X7_alone
set_option maxRecDepth 20000 in
theorem ggL_law_X6_waits : GoodIn wsL_law wsX6_waits := goodIn_r _ [550, 24, 426, 425, 423, 438, 439, 440, 23, 441, 256, 257, 258, 69, 442, 443, 444, 445, 259, 65, 66, 67, 68, 446, 447, 448, 449, 450, 451, 452, 453, 976, 977, 978, 979, 980, 981, 982, 983, 984, 985, 1042, 1043, 1044, 1045, 1046, 1047, 1048, 1049, 1050] (by decide +kernel) (by decide +kernel)
set_option maxRecDepth 20000 in
theorem gL_law_X6_waits : GoodIn wsL_law (wsV RL 60 RX6 yX6_waits wsX6_waits) := goodIn_app (goodIn_of _ (by decide +kernel)) ggL_law_X6_waits
set_option maxRecDepth 20000 in
theorem ggL_law_X7_waits : GoodIn wsL_law wsX7_waits := goodIn_r _ [554, 555, 99, 147, 148, 5, 149, 466, 467, 468, 469, 130, 100, 986, 987, 988, 989, 990, 991, 992, 993, 994, 995, 996, 997, 998, 999, 1000, 1001, 1002, 1003, 1004, 1005, 1006, 1007, 1008, 1009, 1010, 1011, 1012, 1013, 1014, 1015, 1016, 1017, 1018, 1019] (by decide +kernel) (by decide +kernel)
set_option maxRecDepth 20000 in
theorem gL_law_X7_waits : GoodIn wsL_law (wsV RL 63 RX7 yX7_waits wsX7_waits) := goodIn_app (goodIn_of _ (by decide +kernel)) ggL_law_X7_waits
set_option maxRecDepth 20000 in
theorem ggL_law_X6_undo : GoodIn wsL_law wsX6_undo := goodIn_r _ [559, 24, 560, 561, 562, 563, 23, 564, 259, 65, 256, 66, 257, 67, 258, 68, 69, 976, 977, 978, 979, 980, 981, 982, 983, 984, 985, 1042, 1043, 1044, 1045, 1046, 1047, 1048, 1049, 1050] (by decide +kernel) (by decide +kernel)
set_option maxRecDepth 20000 in
theorem gL_law_X6_undo : GoodIn wsL_law (wsV RL 64 RX6 yX6_undo wsX6_undo) := goodIn_app (goodIn_of _ (by decide +kernel)) ggL_law_X6_undo
set_option maxRecDepth 20000 in
theorem ggL_law_X7_undo : GoodIn wsL_law wsX7_undo := goodIn_r _ [568, 130, 99, 100, 986, 987, 988, 989, 990, 991, 992, 993, 994, 995, 996, 997, 998, 999, 1000, 1001, 1002, 1003, 1004, 1005, 1006, 1007, 1008, 1009, 1010, 1011, 1012, 1013, 1014, 1015, 1016, 1017, 1018, 1019] (by decide +kernel) (by decide +kernel)
set_option maxRecDepth 20000 in
theorem gL_law_X7_undo : GoodIn wsL_law (wsV RL 67 RX7 yX7_undo wsX7_undo) := goodIn_app (goodIn_of _ (by decide +kernel)) ggL_law_X7_undo
set_option maxRecDepth 20000 in
theorem ggL_law_X6_now : GoodIn wsL_law wsX6_now := goodIn_r _ [572, 19, 431, 24, 425, 426, 486, 423, 573, 574, 575, 2, 576, 577, 482, 483, 484, 485, 370, 487, 488, 489, 490, 18, 491, 57, 436, 374, 375, 376, 176, 492, 353, 354, 355, 175, 493, 494, 495, 496, 52, 53, 497, 498, 499, 500, 54, 55, 526, 527, 528, 529, 351, 530, 531, 532, 533, 534, 407, 408, 409, 177, 59, 578, 579, 580, 581, 582, 427, 428, 429, 430, 424, 432, 433, 434, 435, 58, 437, 334, 335, 336, 174, 976, 977, 978, 979, 980, 981, 982, 983, 984, 985, 1027, 1028, 1029, 1030, 1031, 1032, 1033, 1034, 1035, 1036, 1037, 1038, 1039, 1040, 1041, 1042, 1043, 1044, 1045, 1046, 1047, 1048, 1049, 1050] (by decide +kernel) (by decide +kernel)
set_option maxRecDepth 20000 in
theorem gL_law_X6_now : GoodIn wsL_law (wsV RL 68 RX6 yX6_now wsX6_now) := goodIn_app (goodIn_of _ (by decide +kernel)) ggL_law_X6_now
set_option maxRecDepth 20000 in
theorem ggL_law_X7_now : GoodIn wsL_law wsX7_now := goodIn_r _ [586, 98, 381, 99, 587, 588, 509, 510, 511, 5, 512, 513, 514, 515, 516, 517, 394, 395, 396, 397, 518, 519, 520, 521, 386, 387, 388, 389, 390, 391, 392, 393, 539, 540, 541, 542, 543, 544, 545, 546, 415, 416, 417, 418, 458, 459, 460, 461, 462, 463, 464, 465, 398, 399, 400, 401, 147, 148, 149, 986, 987, 988, 989, 990, 991, 992, 993, 994, 995, 996, 997, 998, 999, 1000, 1001, 1002, 1003, 1004, 1005, 1006, 1007, 1008, 1009, 1010, 1011, 1012, 1013, 1014, 1015, 1016, 1017, 1018, 1019] (by decide +kernel) (by decide +kernel)
set_option maxRecDepth 20000 in
theorem gL_law_X7_now : GoodIn wsL_law (wsV RL 71 RX7 yX7_now wsX7_now) := goodIn_app (goodIn_of _ (by decide +kernel)) ggL_law_X7_now
set_option maxRecDepth 20000 in
theorem ggL_law_X6_soonest : GoodIn wsL_law wsX6_soonest := goodIn_r _ [592, 593, 594, 595, 2, 596, 19, 31, 597, 598, 599, 333, 334, 335, 18, 336, 174, 600, 601, 602, 30, 603, 74, 604, 605, 606, 607, 608, 609, 610, 611, 612, 613, 614, 489, 490, 491, 57, 436, 374, 375, 376, 176, 492, 353, 354, 355, 175, 615, 498, 499, 500, 54, 55, 616, 617, 618, 619, 620, 621, 622, 623, 624, 625, 626, 627, 628, 629, 433, 434, 435, 58, 437, 630, 631, 632, 633, 634, 635, 636, 976, 977, 978, 979, 980, 981, 982, 983, 984, 985, 1051, 1052, 1053, 1054, 1055, 1027, 1028, 1029, 1030, 1031, 1032, 1033, 1034, 1035, 1036, 1037, 1038, 1039, 1040, 1041] (by decide +kernel) (by decide +kernel)
set_option maxRecDepth 20000 in
theorem gL_law_X6_soonest : GoodIn wsL_law (wsV RL 72 RX6 yX6_soonest wsX6_soonest) := goodIn_app (goodIn_of _ (by decide +kernel)) ggL_law_X6_soonest
set_option maxRecDepth 20000 in
theorem ggL_law_X7_soonest : GoodIn wsL_law wsX7_soonest := goodIn_r _ [640, 641, 642, 643, 5, 644, 360, 98, 101, 645, 102, 103, 341, 342, 343, 344, 147, 148, 149, 646, 647, 648, 649, 650, 462, 463, 464, 465, 398, 399, 400, 401, 651, 652, 653, 654, 655, 656, 657, 658, 659, 660, 661, 662, 514, 515, 516, 517, 394, 395, 396, 397, 518, 519, 520, 521, 386, 387, 388, 389, 390, 391, 392, 393, 986, 987, 988, 989, 990, 991, 992, 993, 994, 995, 996, 997, 998, 999, 1000, 1001, 1002, 1003, 1004, 1005, 1006, 1007, 1008, 1009, 1010, 1011, 1012, 1013, 1014, 1015, 1016, 1017, 1018, 1019] (by decide +kernel) (by decide +kernel)
set_option maxRecDepth 20000 in
theorem gL_law_X7_soonest : GoodIn wsL_law (wsV RL 76 RX7 yX7_soonest wsX7_soonest) := goodIn_app (goodIn_of _ (by decide +kernel)) ggL_law_X7_soonest
set_option maxRecDepth 20000 in
theorem ggL_law_X6_cheapest : GoodIn wsL_law wsX6_cheapest := goodIn_r _ [666, 593, 594, 595, 2, 596, 19, 31, 597, 598, 599, 333, 334, 335, 18, 336, 174, 600, 601, 602, 30, 603, 74, 604, 605, 606, 607, 608, 609, 610, 611, 612, 613, 614, 489, 490, 491, 57, 436, 374, 375, 376, 176, 492, 353, 354, 355, 175, 615, 498, 499, 500, 54, 55, 616, 617, 618, 619, 620, 621, 622, 623, 624, 625, 626, 627, 628, 629, 433, 434, 435, 58, 437, 630, 631, 632, 633, 634, 635, 636, 976, 977, 978, 979, 980, 981, 982, 983, 984, 985, 1051, 1052, 1053, 1054, 1055, 1027, 1028, 1029, 1030, 1031, 1032, 1033, 1034, 1035, 1036, 1037, 1038, 1039, 1040, 1041] (by decide +kernel) (by decide +kernel)
set_option maxRecDepth 20000 in
theorem gL_law_X6_cheapest : GoodIn wsL_law (wsV RL 77 RX6 yX6_cheapest wsX6_cheapest) := goodIn_app (goodIn_of _ (by decide +kernel)) ggL_law_X6_cheapest
set_option maxRecDepth 20000 in
theorem ggL_law_X7_cheapest : GoodIn wsL_law wsX7_cheapest := goodIn_r _ [670, 641, 642, 643, 5, 644, 360, 98, 101, 645, 102, 103, 341, 342, 343, 344, 147, 148, 149, 646, 647, 648, 649, 650, 462, 463, 464, 465, 398, 399, 400, 401, 651, 652, 653, 654, 655, 656, 657, 658, 659, 660, 661, 662, 514, 515, 516, 517, 394, 395, 396, 397, 518, 519, 520, 521, 386, 387, 388, 389, 390, 391, 392, 393, 986, 987, 988, 989, 990, 991, 992, 993, 994, 995, 996, 997, 998, 999, 1000, 1001, 1002, 1003, 1004, 1005, 1006, 1007, 1008, 1009, 1010, 1011, 1012, 1013, 1014, 1015, 1016, 1017, 1018, 1019] (by decide +kernel) (by decide +kernel)
set_option maxRecDepth 20000 in
theorem gL_law_X7_cheapest : GoodIn wsL_law (wsV RL 80 RX7 yX7_cheapest wsX7_cheapest) := goodIn_app (goodIn_of _ (by decide +kernel)) ggL_law_X7_cheapest
set_option maxRecDepth 20000 in
theorem ggL_law_X6_byOne : GoodIn wsL_law wsX6_byOne := goodIn_r _ [674, 19, 582, 371, 333, 334, 335, 18, 336, 174, 432, 433, 434, 435, 58, 436, 374, 375, 376, 176, 437, 675, 676, 677, 678, 175, 52, 53, 976, 977, 978, 979, 980, 981, 982, 983, 984, 985, 1027, 1028, 1029, 1030, 1031, 1032, 1033, 1034, 1035, 1036, 1037, 1038, 1039, 1040, 1041] (by decide +kernel) (by decide +kernel)
set_option maxRecDepth 20000 in
theorem gL_law_X6_byOne : GoodIn wsL_law (wsV RL 81 RX6 yX6_byOne wsX6_byOne) := goodIn_app (goodIn_of _ (by decide +kernel)) ggL_law_X6_byOne
set_option maxRecDepth 20000 in
theorem ggL_law_X7_byOne : GoodIn wsL_law wsX7_byOne := goodIn_r _ [682, 98, 341, 342, 343, 5, 344, 147, 148, 149, 462, 463, 464, 465, 398, 399, 400, 401, 394, 395, 396, 397, 683, 684, 685, 686, 986, 987, 988, 989, 990, 991, 992, 993, 994, 995, 996, 997, 998, 999, 1000, 1001, 1002, 1003, 1004, 1005, 1006, 1007, 1008, 1009, 1010, 1011, 1012, 1013, 1014, 1015, 1016, 1017, 1018, 1019] (by decide +kernel) (by decide +kernel)
set_option maxRecDepth 20000 in
theorem gL_law_X7_byOne : GoodIn wsL_law (wsV RL 84 RX7 yX7_byOne wsX7_byOne) := goodIn_app (goodIn_of _ (by decide +kernel)) ggL_law_X7_byOne
set_option maxRecDepth 20000 in
theorem ggL_law_X6_forFee : GoodIn wsL_law wsX6_forFee := goodIn_r _ [690, 19, 582, 333, 334, 335, 18, 336, 174, 432, 433, 434, 435, 58, 436, 374, 375, 376, 176, 437, 691, 692, 693, 694, 695, 696, 697, 698, 175, 56, 699, 489, 490, 491, 57, 492, 353, 354, 355, 700, 494, 495, 496, 52, 53, 701, 502, 503, 504, 702, 498, 499, 500, 54, 55, 976, 977, 978, 979, 980, 981, 982, 983, 984, 985, 1027, 1028, 1029, 1030, 1031, 1032, 1033, 1034, 1035, 1036, 1037, 1038, 1039, 1040, 1041] (by decide +kernel) (by decide +kernel)
set_option maxRecDepth 20000 in
theorem gL_law_X6_forFee : GoodIn wsL_law (wsV RL 85 RX6 yX6_forFee wsX6_forFee) := goodIn_app (goodIn_of _ (by decide +kernel)) ggL_law_X6_forFee
set_option maxRecDepth 20000 in
theorem ggL_law_X7_forFee : GoodIn wsL_law wsX7_forFee := goodIn_r _ [706, 707, 98, 341, 342, 343, 5, 344, 147, 148, 149, 462, 463, 464, 465, 398, 399, 400, 401, 708, 709, 710, 711, 105, 106, 104, 514, 515, 516, 517, 394, 395, 396, 397, 518, 519, 520, 521, 386, 387, 388, 389, 390, 391, 392, 393, 986, 987, 988, 989, 990, 991, 992, 993, 994, 995, 996, 997, 998, 999, 1000, 1001, 1002, 1003, 1004, 1005, 1006, 1007, 1008, 1009, 1010, 1011, 1012, 1013, 1014, 1015, 1016, 1017, 1018, 1019] (by decide +kernel) (by decide +kernel)
set_option maxRecDepth 20000 in
theorem gL_law_X7_forFee : GoodIn wsL_law (wsV RL 88 RX7 yX7_forFee wsX7_forFee) := goodIn_app (goodIn_of _ (by decide +kernel)) ggL_law_X7_forFee
set_option maxRecDepth 20000 in
theorem ggL_law_X6_byBells : GoodIn wsL_law wsX6_byBells := goodIn_r _ [715, 19, 31, 333, 334, 335, 18, 336, 174, 716, 717, 718, 30, 719, 75, 720, 531, 532, 533, 534, 407, 408, 409, 177, 59, 721, 722, 723, 724, 610, 725, 612, 613, 976, 977, 978, 979, 980, 981, 982, 983, 984, 985, 1027, 1028, 1029, 1030, 1031, 1032, 1033, 1034, 1035, 1036, 1037, 1038, 1039, 1040, 1041, 1051, 1052, 1053, 1054, 1055] (by decide +kernel) (by decide +kernel)
set_option maxRecDepth 20000 in
theorem gL_law_X6_byBells : GoodIn wsL_law (wsV RL 89 RX6 yX6_byBells wsX6_byBells) := goodIn_app (goodIn_of _ (by decide +kernel)) ggL_law_X6_byBells
set_option maxRecDepth 20000 in
theorem ggL_law_X7_byBells : GoodIn wsL_law wsX7_byBells := goodIn_r _ [729, 414, 107, 98, 341, 342, 343, 5, 344, 147, 148, 149, 518, 519, 520, 521, 543, 544, 545, 546, 415, 416, 417, 418, 986, 987, 988, 989, 990, 991, 992, 993, 994, 995, 996, 997, 998, 999, 1000, 1001, 1002, 1003, 1004, 1005, 1006, 1007, 1008, 1009, 1010, 1011, 1012, 1013, 1014, 1015, 1016, 1017, 1018, 1019] (by decide +kernel) (by decide +kernel)
set_option maxRecDepth 20000 in
theorem gL_law_X7_byBells : GoodIn wsL_law (wsV RL 92 RX7 yX7_byBells wsX7_byBells) := goodIn_app (goodIn_of _ (by decide +kernel)) ggL_law_X7_byBells
set_option maxRecDepth 20000 in
theorem ggL_law_X6_taught : GoodIn wsL_law wsX6_taught := goodIn_r _ [733, 19, 577, 371, 372, 373, 374, 375, 18, 376, 176, 488, 489, 490, 491, 57, 436, 492, 353, 354, 355, 175, 675, 676, 677, 678, 52, 53, 734, 735, 736, 737, 738, 739, 740, 976, 977, 978, 979, 980, 981, 982, 983, 984, 985, 1027, 1028, 1029, 1030, 1031, 1032, 1033, 1034, 1035, 1036, 1037, 1038, 1039, 1040, 1041] (by decide +kernel) (by decide +kernel)
set_option maxRecDepth 20000 in
theorem gL_law_X6_taught : GoodIn wsL_law (wsV RL 93 RX6 yX6_taught wsX6_taught) := goodIn_app (goodIn_of _ (by decide +kernel)) ggL_law_X6_taught
set_option maxRecDepth 20000 in
theorem ggL_law_X7_taught : GoodIn wsL_law wsX7_taught := goodIn_r _ [744, 98, 382, 383, 384, 5, 385, 147, 148, 149, 394, 395, 396, 397, 398, 399, 400, 401, 683, 684, 685, 686, 745, 746, 747, 986, 987, 988, 989, 990, 991, 992, 993, 994, 995, 996, 997, 998, 999, 1000, 1001, 1002, 1003, 1004, 1005, 1006, 1007, 1008, 1009, 1010, 1011, 1012, 1013, 1014, 1015, 1016, 1017, 1018, 1019] (by decide +kernel) (by decide +kernel)
set_option maxRecDepth 20000 in
theorem gL_law_X7_taught : GoodIn wsL_law (wsV RL 96 RX7 yX7_taught wsX7_taught) := goodIn_app (goodIn_of _ (by decide +kernel)) ggL_law_X7_taught
set_option maxRecDepth 20000 in
theorem ggL_law_X6_feels : GoodIn wsL_law wsX6_feels := goodIn_r _ [751, 35, 752, 753, 754, 755, 34, 756, 264, 80, 976, 977, 978, 979, 980, 981, 982, 983, 984, 985, 1056, 1057, 1058, 1059, 1060, 1061] (by decide +kernel) (by decide +kernel)
set_option maxRecDepth 20000 in
theorem gL_law_X6_feels : GoodIn wsL_law (wsV RL 97 RX6 yX6_feels wsX6_feels) := goodIn_app (goodIn_of _ (by decide +kernel)) ggL_law_X6_feels
set_option maxRecDepth 20000 in
theorem ggL_law_X7_feels : GoodIn wsL_law wsX7_feels := goodIn_r _ [760, 381, 127, 108, 147, 148, 5, 149, 986, 987, 988, 989, 990, 991, 992, 993, 994, 995, 996, 997, 998, 999, 1000, 1001, 1002, 1003, 1004, 1005, 1006, 1007, 1008, 1009, 1010, 1011, 1012, 1013, 1014, 1015, 1016, 1017, 1018, 1019] (by decide +kernel) (by decide +kernel)
set_option maxRecDepth 20000 in
theorem gL_law_X7_feels : GoodIn wsL_law (wsV RL 100 RX7 yX7_feels wsX7_feels) := goodIn_app (goodIn_of _ (by decide +kernel)) ggL_law_X7_feels
set_option maxRecDepth 20000 in
theorem ggL_law_X6_went : GoodIn wsL_law wsX6_went := goodIn_r _ [764, 19, 35, 765, 333, 334, 335, 18, 336, 174, 766, 767, 768, 34, 769, 265, 81, 770, 771, 772, 773, 175, 700, 494, 495, 496, 52, 53, 701, 502, 503, 504, 774, 775, 776, 777, 976, 977, 978, 979, 980, 981, 982, 983, 984, 985, 1056, 1057, 1058, 1059, 1060, 1061, 1027, 1028, 1029, 1030, 1031, 1032, 1033, 1034, 1035, 1036, 1037, 1038, 1039, 1040, 1041] (by decide +kernel) (by decide +kernel)
set_option maxRecDepth 20000 in
theorem gL_law_X6_went : GoodIn wsL_law (wsV RL 101 RX6 yX6_went wsX6_went) := goodIn_app (goodIn_of _ (by decide +kernel)) ggL_law_X6_went
set_option maxRecDepth 20000 in
theorem ggL_law_X7_went : GoodIn wsL_law wsX7_went := goodIn_r _ [781, 128, 109, 341, 342, 343, 5, 344, 98, 147, 148, 149, 782, 783, 784, 785, 514, 515, 516, 517, 986, 987, 988, 989, 990, 991, 992, 993, 994, 995, 996, 997, 998, 999, 1000, 1001, 1002, 1003, 1004, 1005, 1006, 1007, 1008, 1009, 1010, 1011, 1012, 1013, 1014, 1015, 1016, 1017, 1018, 1019] (by decide +kernel) (by decide +kernel)
set_option maxRecDepth 20000 in
theorem gL_law_X7_went : GoodIn wsL_law (wsV RL 104 RX7 yX7_went wsX7_went) := goodIn_app (goodIn_of _ (by decide +kernel)) ggL_law_X7_went
set_option maxRecDepth 20000 in
theorem ggL_law_X6_forget : GoodIn wsL_law wsX6_forget := goodIn_r _ [789, 35, 752, 765, 260, 261, 262, 34, 263, 264, 265, 976, 977, 978, 979, 980, 981, 982, 983, 984, 985, 1056, 1057, 1058, 1059, 1060, 1061] (by decide +kernel) (by decide +kernel)
set_option maxRecDepth 20000 in
theorem gL_law_X6_forget : GoodIn wsL_law (wsV RL 105 RX6 yX6_forget wsX6_forget) := goodIn_app (goodIn_of _ (by decide +kernel)) ggL_law_X6_forget
set_option maxRecDepth 20000 in
theorem ggL_law_X7_forget : GoodIn wsL_law wsX7_forget := goodIn_r _ [793, 127, 128, 986, 987, 988, 989, 990, 991, 992, 993, 994, 995, 996, 997, 998, 999, 1000, 1001, 1002, 1003, 1004, 1005, 1006, 1007, 1008, 1009, 1010, 1011, 1012, 1013, 1014, 1015, 1016, 1017, 1018, 1019] (by decide +kernel) (by decide +kernel)
set_option maxRecDepth 20000 in
theorem gL_law_X7_forget : GoodIn wsL_law (wsV RL 108 RX7 yX7_forget wsX7_forget) := goodIn_app (goodIn_of _ (by decide +kernel)) ggL_law_X7_forget
set_option maxRecDepth 20000 in
theorem ggL_law_X6_fits : GoodIn wsL_law wsX6_fits := goodIn_r _ [797, 35, 19, 798, 799, 800, 34, 801, 82, 802, 803, 804, 805, 264, 80, 806, 83, 807, 808, 451, 452, 453, 809, 810, 811, 812, 813, 771, 772, 18, 773, 175, 700, 494, 495, 496, 52, 53, 701, 502, 503, 504, 814, 815, 816, 817, 818, 819, 820, 821, 822, 823, 824, 825, 826, 827, 828, 829, 174, 51, 830, 831, 735, 736, 737, 738, 739, 740, 976, 977, 978, 979, 980, 981, 982, 983, 984, 985, 1056, 1057, 1058, 1059, 1060, 1061, 1027, 1028, 1029, 1030, 1031, 1032, 1033, 1034, 1035, 1036, 1037, 1038, 1039, 1040, 1041] (by decide +kernel) (by decide +kernel)
set_option maxRecDepth 20000 in
theorem gL_law_X6_fits : GoodIn wsL_law (wsV RL 109 RX6 yX6_fits wsX6_fits) := goodIn_app (goodIn_of _ (by decide +kernel)) ggL_law_X6_fits
set_option maxRecDepth 20000 in
theorem ggL_law_X7_fits : GoodIn wsL_law wsX7_fits := goodIn_r _ [835, 381, 98, 110, 112, 147, 148, 5, 149, 836, 837, 838, 839, 127, 108, 111, 113, 782, 783, 784, 785, 514, 515, 516, 517, 745, 746, 747, 986, 987, 988, 989, 990, 991, 992, 993, 994, 995, 996, 997, 998, 999, 1000, 1001, 1002, 1003, 1004, 1005, 1006, 1007, 1008, 1009, 1010, 1011, 1012, 1013, 1014, 1015, 1016, 1017, 1018, 1019] (by decide +kernel) (by decide +kernel)
set_option maxRecDepth 20000 in
theorem gL_law_X7_fits : GoodIn wsL_law (wsV RL 112 RX7 yX7_fits wsX7_fits) := goodIn_app (goodIn_of _ (by decide +kernel)) ggL_law_X7_fits
set_option maxRecDepth 20000 in
theorem ggL_law_X6_falseMark : GoodIn wsL_law wsX6_falseMark := goodIn_r _ [843, 35, 752, 765, 19, 431, 844, 845, 846, 34, 847, 264, 265, 807, 81, 80, 976, 977, 978, 979, 980, 981, 982, 983, 984, 985, 1056, 1057, 1058, 1059, 1060, 1061, 1027, 1028, 1029, 1030, 1031, 1032, 1033, 1034, 1035, 1036, 1037, 1038, 1039, 1040, 1041] (by decide +kernel) (by decide +kernel)
set_option maxRecDepth 20000 in
theorem gL_law_X6_falseMark : GoodIn wsL_law (wsV RL 113 RX6 yX6_falseMark wsX6_falseMark) := goodIn_app (goodIn_of _ (by decide +kernel)) ggL_law_X6_falseMark
set_option maxRecDepth 20000 in
theorem ggL_law_X7_falseMark : GoodIn wsL_law wsX7_falseMark := goodIn_r _ [851, 127, 128, 109, 108, 98, 986, 987, 988, 989, 990, 991, 992, 993, 994, 995, 996, 997, 998, 999, 1000, 1001, 1002, 1003, 1004, 1005, 1006, 1007, 1008, 1009, 1010, 1011, 1012, 1013, 1014, 1015, 1016, 1017, 1018, 1019] (by decide +kernel) (by decide +kernel)
set_option maxRecDepth 20000 in
theorem gL_law_X7_falseMark : GoodIn wsL_law (wsV RL 116 RX7 yX7_falseMark wsX7_falseMark) := goodIn_app (goodIn_of _ (by decide +kernel)) ggL_law_X7_falseMark
set_option maxRecDepth 20000 in
theorem ggL_law_X6_wishes : GoodIn wsL_law wsX6_wishes := goodIn_r _ [855, 19, 39, 162, 333, 334, 335, 18, 336, 174, 856, 857, 858, 38, 859, 860, 88, 89, 90, 976, 977, 978, 979, 980, 981, 982, 983, 984, 985, 1062, 1063, 1064, 1065, 1066, 1067, 1068, 1027, 1028, 1029, 1030, 1031, 1032, 1033, 1034, 1035, 1036, 1037, 1038, 1039, 1040, 1041] (by decide +kernel) (by decide +kernel)
set_option maxRecDepth 20000 in
theorem gL_law_X6_wishes : GoodIn wsL_law (wsV RL 117 RX6 yX6_wishes wsX6_wishes) := goodIn_app (goodIn_of _ (by decide +kernel)) ggL_law_X6_wishes
set_option maxRecDepth 20000 in
theorem ggL_law_X7_wishes : GoodIn wsL_law wsX7_wishes := goodIn_r _ [864, 555, 129, 114, 115, 116, 341, 342, 343, 5, 344, 98, 147, 148, 149, 986, 987, 988, 989, 990, 991, 992, 993, 994, 995, 996, 997, 998, 999, 1000, 1001, 1002, 1003, 1004, 1005, 1006, 1007, 1008, 1009, 1010, 1011, 1012, 1013, 1014, 1015, 1016, 1017, 1018, 1019] (by decide +kernel) (by decide +kernel)
set_option maxRecDepth 20000 in
theorem gL_law_X7_wishes : GoodIn wsL_law (wsV RL 120 RX7 yX7_wishes wsX7_wishes) := goodIn_app (goodIn_of _ (by decide +kernel)) ggL_law_X7_wishes
set_option maxRecDepth 20000 in
theorem ggL_law_X6_grants : GoodIn wsL_law wsX6_grants := goodIn_r _ [868, 39, 162, 976, 977, 978, 979, 980, 981, 982, 983, 984, 985, 1062, 1063, 1064, 1065, 1066, 1067, 1068] (by decide +kernel) (by decide +kernel)
set_option maxRecDepth 20000 in
theorem gL_law_X6_grants : GoodIn wsL_law (wsV RL 121 RX6 yX6_grants wsX6_grants) := goodIn_app (goodIn_of _ (by decide +kernel)) ggL_law_X6_grants
set_option maxRecDepth 20000 in
theorem ggL_law_X7_grants : GoodIn wsL_law wsX7_grants := goodIn_r _ [872, 129, 986, 987, 988, 989, 990, 991, 992, 993, 994, 995, 996, 997, 998, 999, 1000, 1001, 1002, 1003, 1004, 1005, 1006, 1007, 1008, 1009, 1010, 1011, 1012, 1013, 1014, 1015, 1016, 1017, 1018, 1019] (by decide +kernel) (by decide +kernel)
set_option maxRecDepth 20000 in
theorem gL_law_X7_grants : GoodIn wsL_law (wsV RL 124 RX7 yX7_grants wsX7_grants) := goodIn_app (goodIn_of _ (by decide +kernel)) ggL_law_X7_grants
set_option maxRecDepth 20000 in
theorem ggL_law_X6_day : GoodIn wsL_law wsX6_day := goodIn_r _ [876, 19, 39, 877, 878, 373, 374, 375, 18, 376, 176, 333, 334, 335, 336, 174, 432, 433, 434, 435, 58, 436, 437, 879, 880, 881, 38, 882, 883, 884, 885, 886, 887, 888, 91, 889, 890, 891, 892, 893, 894, 895, 896, 489, 490, 491, 57, 492, 353, 354, 355, 175, 897, 498, 499, 500, 54, 55, 898, 899, 900, 901, 902, 903, 904, 905, 860, 88, 89, 90, 976, 977, 978, 979, 980, 981, 982, 983, 984, 985, 1062, 1063, 1064, 1065, 1066, 1067, 1068, 1027, 1028, 1029, 1030, 1031, 1032, 1033, 1034, 1035, 1036, 1037, 1038, 1039, 1040, 1041] (by decide +kernel) (by decide +kernel)
set_option maxRecDepth 20000 in
theorem gL_law_X6_day : GoodIn wsL_law (wsV RL 125 RX6 yX6_day wsX6_day) := goodIn_app (goodIn_of _ (by decide +kernel)) ggL_law_X6_day
set_option maxRecDepth 20000 in
theorem ggL_law_X7_day : GoodIn wsL_law wsX7_day := goodIn_r _ [909, 555, 129, 117, 114, 115, 116, 382, 383, 384, 5, 385, 98, 147, 148, 149, 341, 342, 343, 344, 462, 463, 464, 465, 398, 399, 400, 401, 910, 911, 912, 913, 645, 394, 395, 396, 397, 518, 519, 520, 521, 386, 387, 388, 389, 914, 915, 916, 917, 986, 987, 988, 989, 990, 991, 992, 993, 994, 995, 996, 997, 998, 999, 1000, 1001, 1002, 1003, 1004, 1005, 1006, 1007, 1008, 1009, 1010, 1011, 1012, 1013, 1014, 1015, 1016, 1017, 1018, 1019] (by decide +kernel) (by decide +kernel)
set_option maxRecDepth 20000 in
theorem gL_law_X7_day : GoodIn wsL_law (wsV RL 129 RX7 yX7_day wsX7_day) := goodIn_app (goodIn_of _ (by decide +kernel)) ggL_law_X7_day
set_option maxRecDepth 20000 in
theorem ggL_law_X6_rate : GoodIn wsL_law wsX6_rate := goodIn_r _ [921, 19, 922, 373, 374, 375, 18, 376, 176, 923, 924, 925, 2, 926, 40, 927, 369, 371, 372, 24, 426, 370, 734, 735, 736, 737, 738, 739, 740, 976, 977, 978, 979, 980, 981, 982, 983, 984, 985, 1027, 1028, 1029, 1030, 1031, 1032, 1033, 1034, 1035, 1036, 1037, 1038, 1039, 1040, 1041, 1042, 1043, 1044, 1045, 1046, 1047, 1048, 1049, 1050] (by decide +kernel) (by decide +kernel)
set_option maxRecDepth 20000 in
theorem gL_law_X6_rate : GoodIn wsL_law (wsV RL 130 RX6 yX6_rate wsX6_rate) := goodIn_app (goodIn_of _ (by decide +kernel)) ggL_law_X6_rate
set_option maxRecDepth 20000 in
theorem ggL_law_X7_rate : GoodIn wsL_law wsX7_rate := goodIn_r _ [931, 588, 932, 933, 934, 935, 936, 937, 938, 99, 147, 148, 5, 149, 382, 383, 384, 385, 98, 390, 391, 392, 393, 386, 387, 388, 389, 394, 395, 396, 397, 745, 746, 747, 398, 399, 400, 401, 986, 987, 988, 989, 990, 991, 992, 993, 994, 995, 996, 997, 998, 999, 1000, 1001, 1002, 1003, 1004, 1005, 1006, 1007, 1008, 1009, 1010, 1011, 1012, 1013, 1014, 1015, 1016, 1017, 1018, 1019] (by decide +kernel) (by decide +kernel)
set_option maxRecDepth 20000 in
theorem gL_law_X7_rate : GoodIn wsL_law (wsV RL 133 RX7 yX7_rate wsX7_rate) := goodIn_app (goodIn_of _ (by decide +kernel)) ggL_law_X7_rate
set_option maxRecDepth 20000 in
theorem ggL_law_X6_keep : GoodIn wsL_law wsX6_keep := goodIn_r _ [942, 25, 24, 27, 426, 943, 944, 945, 23, 946, 256, 257, 258, 69, 259, 65, 450, 451, 452, 453, 66, 67, 68, 976, 977, 978, 979, 980, 981, 982, 983, 984, 985, 1042, 1043, 1044, 1045, 1046, 1047, 1048, 1049, 1050] (by decide +kernel) (by decide +kernel)
set_option maxRecDepth 20000 in
theorem gL_law_X6_keep : GoodIn wsL_law (wsV RL 134 RX6 yX6_keep wsX6_keep) := goodIn_app (goodIn_of _ (by decide +kernel)) ggL_law_X6_keep
set_option maxRecDepth 20000 in
theorem ggL_law_X7_keep : GoodIn wsL_law wsX7_keep := goodIn_r _ [950, 118, 130, 99, 100, 147, 148, 5, 149, 986, 987, 988, 989, 990, 991, 992, 993, 994, 995, 996, 997, 998, 999, 1000, 1001, 1002, 1003, 1004, 1005, 1006, 1007, 1008, 1009, 1010, 1011, 1012, 1013, 1014, 1015, 1016, 1017, 1018, 1019] (by decide +kernel) (by decide +kernel)
set_option maxRecDepth 20000 in
theorem gL_law_X7_keep : GoodIn wsL_law (wsV RL 137 RX7 yX7_keep wsX7_keep) := goodIn_app (goodIn_of _ (by decide +kernel)) ggL_law_X7_keep
set_option maxRecDepth 20000 in
theorem ggL_law_X6_back : GoodIn wsL_law wsX6_back := goodIn_r _ [954, 27, 24, 25, 426, 943, 944, 945, 23, 946, 256, 257, 258, 69, 259, 65, 450, 451, 452, 453, 66, 67, 68, 976, 977, 978, 979, 980, 981, 982, 983, 984, 985, 1042, 1043, 1044, 1045, 1046, 1047, 1048, 1049, 1050] (by decide +kernel) (by decide +kernel)
set_option maxRecDepth 20000 in
theorem gL_law_X6_back : GoodIn wsL_law (wsV RL 138 RX6 yX6_back wsX6_back) := goodIn_app (goodIn_of _ (by decide +kernel)) ggL_law_X6_back
set_option maxRecDepth 20000 in
theorem ggL_law_X7_back : GoodIn wsL_law wsX7_back := goodIn_r _ [958, 118, 130, 99, 100, 147, 148, 5, 149, 986, 987, 988, 989, 990, 991, 992, 993, 994, 995, 996, 997, 998, 999, 1000, 1001, 1002, 1003, 1004, 1005, 1006, 1007, 1008, 1009, 1010, 1011, 1012, 1013, 1014, 1015, 1016, 1017, 1018, 1019] (by decide +kernel) (by decide +kernel)
set_option maxRecDepth 20000 in
theorem gL_law_X7_back : GoodIn wsL_law (wsV RL 141 RX7 yX7_back wsX7_back) := goodIn_app (goodIn_of _ (by decide +kernel)) ggL_law_X7_back
set_option maxRecDepth 20000 in
theorem ggL_law_X6_count : GoodIn wsL_law wsX6_count := goodIn_r _ [962, 19, 431, 577, 582, 424, 963, 35, 752, 765, 39, 162, 24, 560, 15, 135, 976, 977, 978, 979, 980, 981, 982, 983, 984, 985, 1027, 1028, 1029, 1030, 1031, 1032, 1033, 1034, 1035, 1036, 1037, 1038, 1039, 1040, 1041, 1056, 1057, 1058, 1059, 1060, 1061, 1062, 1063, 1064, 1065, 1066, 1067, 1068, 1042, 1043, 1044, 1045, 1046, 1047, 1048, 1049, 1050, 1020, 1021, 1022, 1023, 1024, 1025, 1026] (by decide +kernel) (by decide +kernel)
set_option maxRecDepth 20000 in
theorem gL_law_X6_count : GoodIn wsL_law (wsV RL 142 RX6 yX6_count wsX6_count) := goodIn_app (goodIn_of _ (by decide +kernel)) ggL_law_X6_count
set_option maxRecDepth 20000 in
theorem ggL_law_X7_count : GoodIn wsL_law wsX7_count := goodIn_r _ [967, 98, 127, 128, 129, 130, 146, 986, 987, 988, 989, 990, 991, 992, 993, 994, 995, 996, 997, 998, 999, 1000, 1001, 1002, 1003, 1004, 1005, 1006, 1007, 1008, 1009, 1010, 1011, 1012, 1013, 1014, 1015, 1016, 1017, 1018, 1019] (by decide +kernel) (by decide +kernel)
set_option maxRecDepth 20000 in
theorem gL_law_X7_count : GoodIn wsL_law (wsV RL 145 RX7 yX7_count wsX7_count) := goodIn_app (goodIn_of _ (by decide +kernel)) ggL_law_X7_count
set_option maxRecDepth 20000 in
theorem ggL_law_X6_trace : GoodIn wsL_law wsX6_trace := goodIn_r _ [971, 40, 976, 977, 978, 979, 980, 981, 982, 983, 984, 985] (by decide +kernel) (by decide +kernel)
set_option maxRecDepth 20000 in
theorem gL_law_X6_trace : GoodIn wsL_law (wsV RL 146 RX6 yX6_trace wsX6_trace) := goodIn_app (goodIn_of _ (by decide +kernel)) ggL_law_X6_trace
set_option maxRecDepth 20000 in
theorem ggL_law_X7_trace : GoodIn wsL_law wsX7_trace := goodIn_r _ [975, 933, 986, 987, 988, 989, 990, 991, 992, 993, 994, 995, 996, 997, 998, 999, 1000, 1001, 1002, 1003, 1004, 1005, 1006, 1007, 1008, 1009, 1010, 1011, 1012, 1013, 1014, 1015, 1016, 1017, 1018, 1019] (by decide +kernel) (by decide +kernel)
set_option maxRecDepth 20000 in
theorem gL_law_X7_trace : GoodIn wsL_law (wsV RL 150 RX7 yX7_trace wsX7_trace) := goodIn_app (goodIn_of _ (by decide +kernel)) ggL_law_X7_trace
theorem dL_law_0 : decode cL_law 0 = .ok (.new 7, 3) := by decide +kernel
theorem dL_law_3 : decode cL_law 3 = .ok (.dup, 1) := by decide +kernel
theorem dL_law_4 : decode cL_law 4 = .ok (.invokespecial 9, 3) := by decide +kernel
theorem dL_law_7 : decode cL_law 7 = .ok (.astore_n 1, 1) := by decide +kernel
theorem dL_law_8 : decode cL_law 8 = .ok (.new 10, 3) := by decide +kernel
theorem dL_law_11 : decode cL_law 11 = .ok (.dup, 1) := by decide +kernel
theorem dL_law_12 : decode cL_law 12 = .ok (.invokespecial 12, 3) := by decide +kernel
theorem dL_law_15 : decode cL_law 15 = .ok (.astore_n 2, 1) := by decide +kernel
theorem dL_law_16 : decode cL_law 16 = .ok (.iconst 0, 1) := by decide +kernel
theorem dL_law_17 : decode cL_law 17 = .ok (.istore_n 3, 1) := by decide +kernel
theorem dL_law_18 : decode cL_law 18 = .ok (.iload_n 3, 1) := by decide +kernel
theorem dL_law_19 : decode cL_law 19 = .ok (.aload_n 0, 1) := by decide +kernel
theorem dL_law_20 : decode cL_law 20 = .ok (.arraylength, 1) := by decide +kernel
theorem dL_law_21 : decode cL_law 21 = .ok (.iconst 5, 1) := by decide +kernel
theorem dL_law_22 : decode cL_law 22 = .ok (.isub, 1) := by decide +kernel
theorem dL_law_23 : decode cL_law 23 = .ok (.if_icmp .gt 1023, 3) := by decide +kernel
theorem dL_law_26 : decode cL_law 26 = .ok (.aload_n 0, 1) := by decide +kernel
theorem dL_law_27 : decode cL_law 27 = .ok (.iload_n 3, 1) := by decide +kernel
theorem dL_law_28 : decode cL_law 28 = .ok (.iaload, 1) := by decide +kernel
theorem dL_law_29 : decode cL_law 29 = .ok (.bipush 63, 2) := by decide +kernel
theorem dL_law_31 : decode cL_law 31 = .ok (.iand, 1) := by decide +kernel
theorem dL_law_32 : decode cL_law 32 = .ok (.tableswitch 1008 0 32 #[148, 171, 184, 197, 220, 253, 286, 309, 332, 345, 368, 391, 414, 427, 450, 493, 536, 569, 612, 655, 688, 711, 734, 747, 770, 783, 826, 839, 892, 925, 948, 971, 994], 148) := by decide +kernel
theorem dL_law_180 : decode cL_law 180 = .ok (.aload_n 1, 1) := by decide +kernel
theorem dL_law_181 : decode cL_law 181 = .ok (.aload_n 0, 1) := by decide +kernel
theorem dL_law_182 : decode cL_law 182 = .ok (.iload_n 3, 1) := by decide +kernel
theorem dL_law_183 : decode cL_law 183 = .ok (.iconst 1, 1) := by decide +kernel
theorem dL_law_184 : decode cL_law 184 = .ok (.iadd, 1) := by decide +kernel
theorem dL_law_185 : decode cL_law 185 = .ok (.iaload, 1) := by decide +kernel
theorem dL_law_186 : decode cL_law 186 = .ok (.invokevirtual 13, 3) := by decide +kernel
theorem dL_law_189 : decode cL_law 189 = .ok (.aload_n 2, 1) := by decide +kernel
theorem dL_law_190 : decode cL_law 190 = .ok (.aload_n 0, 1) := by decide +kernel
theorem dL_law_191 : decode cL_law 191 = .ok (.iload_n 3, 1) := by decide +kernel
theorem dL_law_192 : decode cL_law 192 = .ok (.iconst 1, 1) := by decide +kernel
theorem dL_law_193 : decode cL_law 193 = .ok (.iadd, 1) := by decide +kernel
theorem dL_law_194 : decode cL_law 194 = .ok (.iaload, 1) := by decide +kernel
theorem dL_law_195 : decode cL_law 195 = .ok (.invokevirtual 17, 3) := by decide +kernel
theorem dL_law_198 : decode cL_law 198 = .ok (.if_icmp .eq 842, 3) := by decide +kernel
theorem dL_law_201 : decode cL_law 201 = .ok (.iconst 0, 1) := by decide +kernel
theorem dL_law_202 : decode cL_law 202 = .ok (.ireturn, 1) := by decide +kernel
theorem dL_law_203 : decode cL_law 203 = .ok (.aload_n 1, 1) := by decide +kernel
theorem dL_law_204 : decode cL_law 204 = .ok (.invokevirtual 18, 3) := by decide +kernel
theorem dL_law_207 : decode cL_law 207 = .ok (.aload_n 2, 1) := by decide +kernel
theorem dL_law_208 : decode cL_law 208 = .ok (.invokevirtual 22, 3) := by decide +kernel
theorem dL_law_211 : decode cL_law 211 = .ok (.if_icmp .eq 829, 3) := by decide +kernel
theorem dL_law_214 : decode cL_law 214 = .ok (.iconst 0, 1) := by decide +kernel
theorem dL_law_215 : decode cL_law 215 = .ok (.ireturn, 1) := by decide +kernel
theorem dL_law_216 : decode cL_law 216 = .ok (.aload_n 1, 1) := by decide +kernel
theorem dL_law_217 : decode cL_law 217 = .ok (.invokevirtual 23, 3) := by decide +kernel
theorem dL_law_220 : decode cL_law 220 = .ok (.aload_n 2, 1) := by decide +kernel
theorem dL_law_221 : decode cL_law 221 = .ok (.invokevirtual 26, 3) := by decide +kernel
theorem dL_law_224 : decode cL_law 224 = .ok (.if_icmp .eq 816, 3) := by decide +kernel
theorem dL_law_227 : decode cL_law 227 = .ok (.iconst 0, 1) := by decide +kernel
theorem dL_law_228 : decode cL_law 228 = .ok (.ireturn, 1) := by decide +kernel
theorem dL_law_229 : decode cL_law 229 = .ok (.aload_n 1, 1) := by decide +kernel
theorem dL_law_230 : decode cL_law 230 = .ok (.aload_n 0, 1) := by decide +kernel
theorem dL_law_231 : decode cL_law 231 = .ok (.iload_n 3, 1) := by decide +kernel
theorem dL_law_232 : decode cL_law 232 = .ok (.iconst 1, 1) := by decide +kernel
theorem dL_law_233 : decode cL_law 233 = .ok (.iadd, 1) := by decide +kernel
theorem dL_law_234 : decode cL_law 234 = .ok (.iaload, 1) := by decide +kernel
theorem dL_law_235 : decode cL_law 235 = .ok (.invokevirtual 27, 3) := by decide +kernel
theorem dL_law_238 : decode cL_law 238 = .ok (.aload_n 2, 1) := by decide +kernel
theorem dL_law_239 : decode cL_law 239 = .ok (.aload_n 0, 1) := by decide +kernel
theorem dL_law_240 : decode cL_law 240 = .ok (.iload_n 3, 1) := by decide +kernel
theorem dL_law_241 : decode cL_law 241 = .ok (.iconst 1, 1) := by decide +kernel
theorem dL_law_242 : decode cL_law 242 = .ok (.iadd, 1) := by decide +kernel
theorem dL_law_243 : decode cL_law 243 = .ok (.iaload, 1) := by decide +kernel
theorem dL_law_244 : decode cL_law 244 = .ok (.invokevirtual 30, 3) := by decide +kernel
theorem dL_law_247 : decode cL_law 247 = .ok (.if_icmp .eq 793, 3) := by decide +kernel
theorem dL_law_250 : decode cL_law 250 = .ok (.iconst 0, 1) := by decide +kernel
theorem dL_law_251 : decode cL_law 251 = .ok (.ireturn, 1) := by decide +kernel
theorem dL_law_252 : decode cL_law 252 = .ok (.aload_n 1, 1) := by decide +kernel
theorem dL_law_253 : decode cL_law 253 = .ok (.aload_n 0, 1) := by decide +kernel
theorem dL_law_254 : decode cL_law 254 = .ok (.iload_n 3, 1) := by decide +kernel
theorem dL_law_255 : decode cL_law 255 = .ok (.iconst 1, 1) := by decide +kernel
theorem dL_law_256 : decode cL_law 256 = .ok (.iadd, 1) := by decide +kernel
theorem dL_law_257 : decode cL_law 257 = .ok (.iaload, 1) := by decide +kernel
theorem dL_law_258 : decode cL_law 258 = .ok (.aload_n 0, 1) := by decide +kernel
theorem dL_law_259 : decode cL_law 259 = .ok (.iload_n 3, 1) := by decide +kernel
theorem dL_law_260 : decode cL_law 260 = .ok (.iconst 2, 1) := by decide +kernel
theorem dL_law_261 : decode cL_law 261 = .ok (.iadd, 1) := by decide +kernel
theorem dL_law_262 : decode cL_law 262 = .ok (.iaload, 1) := by decide +kernel
theorem dL_law_263 : decode cL_law 263 = .ok (.invokevirtual 31, 3) := by decide +kernel
theorem dL_law_266 : decode cL_law 266 = .ok (.aload_n 2, 1) := by decide +kernel
theorem dL_law_267 : decode cL_law 267 = .ok (.aload_n 0, 1) := by decide +kernel
theorem dL_law_268 : decode cL_law 268 = .ok (.iload_n 3, 1) := by decide +kernel
theorem dL_law_269 : decode cL_law 269 = .ok (.iconst 1, 1) := by decide +kernel
theorem dL_law_270 : decode cL_law 270 = .ok (.iadd, 1) := by decide +kernel
theorem dL_law_271 : decode cL_law 271 = .ok (.iaload, 1) := by decide +kernel
theorem dL_law_272 : decode cL_law 272 = .ok (.aload_n 0, 1) := by decide +kernel
theorem dL_law_273 : decode cL_law 273 = .ok (.iload_n 3, 1) := by decide +kernel
theorem dL_law_274 : decode cL_law 274 = .ok (.iconst 2, 1) := by decide +kernel
theorem dL_law_275 : decode cL_law 275 = .ok (.iadd, 1) := by decide +kernel
theorem dL_law_276 : decode cL_law 276 = .ok (.iaload, 1) := by decide +kernel
theorem dL_law_277 : decode cL_law 277 = .ok (.invokevirtual 35, 3) := by decide +kernel
theorem dL_law_280 : decode cL_law 280 = .ok (.if_icmp .eq 760, 3) := by decide +kernel
theorem dL_law_283 : decode cL_law 283 = .ok (.iconst 0, 1) := by decide +kernel
theorem dL_law_284 : decode cL_law 284 = .ok (.ireturn, 1) := by decide +kernel
theorem dL_law_285 : decode cL_law 285 = .ok (.aload_n 1, 1) := by decide +kernel
theorem dL_law_286 : decode cL_law 286 = .ok (.aload_n 0, 1) := by decide +kernel
theorem dL_law_287 : decode cL_law 287 = .ok (.iload_n 3, 1) := by decide +kernel
theorem dL_law_288 : decode cL_law 288 = .ok (.iconst 1, 1) := by decide +kernel
theorem dL_law_289 : decode cL_law 289 = .ok (.iadd, 1) := by decide +kernel
theorem dL_law_290 : decode cL_law 290 = .ok (.iaload, 1) := by decide +kernel
theorem dL_law_291 : decode cL_law 291 = .ok (.aload_n 0, 1) := by decide +kernel
theorem dL_law_292 : decode cL_law 292 = .ok (.iload_n 3, 1) := by decide +kernel
