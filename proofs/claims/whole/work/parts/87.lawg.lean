set_option maxRecDepth 20000 in
theorem ggL_law_X10_init : GoodIn wsL_law wsX10_init := goodIn_r _ [8, 9, 10, 11, 12, 13, 14, 15, 16, 17, 18, 19, 20, 21, 22, 23, 24, 25, 26, 27, 28, 29, 30, 31, 32, 33, 34, 35, 36, 37, 38, 39, 40, 41, 42, 43, 44, 45, 46, 47, 48, 49, 50, 51, 52, 53, 54, 55, 56, 57, 58, 59, 60, 61, 62, 63, 64, 65, 66, 67, 68, 69, 70, 71, 72, 73, 74, 75, 76, 77, 78, 79, 80, 81, 82, 83, 84, 85, 86, 87, 88, 89, 90, 91, 92, 93, 94, 95, 96, 97, 98, 99, 100, 101, 102, 103, 104, 105, 106, 107, 108, 109, 110, 111, 112, 113, 114, 115, 116, 117, 118, 119, 120, 121, 122, 123, 124, 125, 126, 127, 128, 129, 1078, 1079, 1080, 1081, 1082, 1083, 1022, 1023, 1024, 1025, 1026, 1027, 1028, 1029, 1030, 1031, 1032, 1084, 1085, 1086, 1087, 1088, 1089, 1090, 1091, 1092, 1093, 1094, 1095, 1096, 1097, 1098, 1099, 1100, 1101, 1102, 1103, 1104, 1105, 1106, 1107, 1108, 1109, 1110, 1111, 1112, 1113, 1114, 1115, 1116, 1117, 1118, 1119, 1120, 1121, 1122, 1123, 1124, 1125, 1126, 1127, 1128, 1129, 1130, 1131, 1132, 1133] (by decide +kernel) (by decide +kernel)
set_option maxRecDepth 20000 in
theorem gL_law_X10_init : GoodIn wsL_law (wsX10_init) := ggL_law_X10_init
set_option maxRecDepth 20000 in
theorem ggL_law_X11_init : GoodIn wsL_law wsX11_init := goodIn_r _ [132, 133, 10, 11, 53, 134, 135, 136, 137, 138, 139, 140, 141, 142, 143, 144, 145, 146, 147, 148, 149, 150, 151, 152, 153, 154, 155, 156, 157, 158, 159, 160, 161, 1033, 1034, 1035, 1036, 1037, 1038, 1039, 1040, 1041, 1042, 1043, 1044, 1045, 1046, 1047, 1048, 1049, 1050, 1051, 1052, 1053, 1054, 1055, 1056, 1057, 1058, 1059, 1060, 1061, 1062, 1063, 1064, 1065, 1066, 1067, 1068, 1069, 1070, 1071, 1072, 1073, 1074, 1075, 1076, 1077] (by decide +kernel) (by decide +kernel)
set_option maxRecDepth 20000 in
theorem gL_law_X11_init : GoodIn wsL_law (wsX11_init) := ggL_law_X11_init
set_option maxRecDepth 20000 in
theorem ggL_law_X10_feed : GoodIn wsL_law wsX10_feed := goodIn_r _ [165, 166, 15, 167, 168, 169, 170, 2, 171, 172, 173, 174, 14, 175, 54, 176, 1022, 1023, 1024, 1025, 1026, 1027, 1028, 1029, 1030, 1031, 1032, 1078, 1079, 1080, 1081, 1082, 1083] (by decide +kernel) (by decide +kernel)
set_option maxRecDepth 20000 in
theorem gL_law_X10_feed : GoodIn wsL_law (wsV RL 13 RX10 yX10_feed wsX10_feed) := goodIn_app (goodIn_of _ (by decide +kernel)) ggL_law_X10_feed
set_option maxRecDepth 20000 in
theorem ggL_law_X11_feed : GoodIn wsL_law wsX11_feed := goodIn_r _ [180, 181, 182, 183, 184, 139, 185, 186, 5, 187, 1033, 1034, 1035, 1036, 1037, 1038, 1039, 1040, 1041, 1042, 1043, 1044, 1045, 1046, 1047, 1048, 1049, 1050, 1051, 1052, 1053, 1054, 1055, 1056, 1057, 1058, 1059, 1060, 1061, 1062, 1063, 1064, 1065, 1066, 1067, 1068, 1069, 1070, 1071, 1072, 1073, 1074, 1075, 1076, 1077] (by decide +kernel) (by decide +kernel)
set_option maxRecDepth 20000 in
theorem gL_law_X11_feed : GoodIn wsL_law (wsV RL 17 RX11 yX11_feed wsX11_feed) := goodIn_app (goodIn_of _ (by decide +kernel)) ggL_law_X11_feed
set_option maxRecDepth 20000 in
theorem ggL_law_X10_plateau : GoodIn wsL_law wsX10_plateau := goodIn_r _ [191, 15, 49, 192, 48, 19, 24, 30, 193, 40, 194, 44, 195, 196, 197, 198, 199, 14, 200, 201, 55, 202, 176, 203, 204, 205, 47, 206, 207, 208, 129, 209, 210, 211, 212, 213, 214, 54, 215, 216, 217, 218, 219, 220, 221, 222, 223, 224, 225, 226, 227, 228, 229, 230, 231, 232, 233, 234, 235, 236, 237, 238, 239, 240, 241, 242, 243, 244, 245, 246, 247, 248, 249, 250, 251, 252, 253, 254, 255, 256, 257, 258, 259, 260, 261, 110, 262, 263, 264, 265, 266, 267, 268, 269, 270, 271, 272, 273, 274, 275, 276, 277, 278, 279, 116, 117, 118, 18, 119, 59, 60, 120, 61, 62, 121, 63, 122, 123, 124, 125, 126, 127, 128, 280, 281, 282, 23, 283, 284, 1022, 1023, 1024, 1025, 1026, 1027, 1028, 1029, 1030, 1031, 1032, 1078, 1079, 1080, 1081, 1082, 1083, 1096, 1097, 1098, 1104, 1105, 1106, 1107, 1108, 1109, 1110, 1111, 1112, 1113, 1114, 1115, 1116, 1117, 1118, 1119, 1120, 1121, 1122, 1123, 1124, 1125, 1126, 1127, 1084, 1085, 1086, 1087, 1088, 1089, 1090, 1091, 1092, 1093, 1094] (by decide +kernel) (by decide +kernel)
set_option maxRecDepth 20000 in
theorem gL_law_X10_plateau : GoodIn wsL_law (wsV RL 18 RX10 yX10_plateau wsX10_plateau) := goodIn_app (goodIn_of _ (by decide +kernel)) ggL_law_X10_plateau
set_option maxRecDepth 20000 in
theorem ggL_law_X11_plateau : GoodIn wsL_law wsX11_plateau := goodIn_r _ [288, 140, 289, 141, 290, 291, 292, 293, 183, 294, 295, 296, 160, 161, 297, 298, 299, 5, 300, 139, 301, 302, 303, 304, 305, 306, 307, 308, 309, 310, 311, 312, 313, 314, 315, 316, 317, 318, 319, 320, 321, 322, 323, 324, 325, 326, 327, 328, 329, 330, 331, 332, 333, 334, 335, 336, 185, 186, 187, 337, 338, 339, 340, 341, 342, 343, 344, 345, 346, 347, 142, 143, 348, 349, 350, 351, 144, 145, 352, 353, 354, 355, 146, 147, 356, 357, 358, 359, 360, 361, 362, 363, 364, 365, 138, 134, 135, 136, 137, 1033, 1034, 1035, 1036, 1037, 1038, 1039, 1040, 1041, 1042, 1043, 1044, 1045, 1046, 1047, 1048, 1049, 1050, 1051, 1052, 1053, 1054, 1055, 1056, 1057, 1058, 1059, 1060, 1061, 1062, 1063, 1064, 1065, 1066, 1067, 1068, 1069, 1070, 1071, 1072, 1073, 1074, 1075, 1076, 1077] (by decide +kernel) (by decide +kernel)
set_option maxRecDepth 20000 in
theorem gL_law_X11_plateau : GoodIn wsL_law (wsV RL 22 RX11 yX11_plateau wsX11_plateau) := goodIn_app (goodIn_of _ (by decide +kernel)) ggL_law_X11_plateau
set_option maxRecDepth 20000 in
theorem ggL_law_X10_fault : GoodIn wsL_law wsX10_fault := goodIn_r _ [369, 15, 370, 1022, 1023, 1024, 1025, 1026, 1027, 1028, 1029, 1030, 1031, 1032, 1078, 1079, 1080, 1081, 1082, 1083] (by decide +kernel) (by decide +kernel)
set_option maxRecDepth 20000 in
theorem gL_law_X10_fault : GoodIn wsL_law (wsV RL 23 RX10 yX10_fault wsX10_fault) := goodIn_app (goodIn_of _ (by decide +kernel)) ggL_law_X10_fault
set_option maxRecDepth 20000 in
theorem ggL_law_X11_fault : GoodIn wsL_law wsX11_fault := goodIn_r _ [374, 140, 1033, 1034, 1035, 1036, 1037, 1038, 1039, 1040, 1041, 1042, 1043, 1044, 1045, 1046, 1047, 1048, 1049, 1050, 1051, 1052, 1053, 1054, 1055, 1056, 1057, 1058, 1059, 1060, 1061, 1062, 1063, 1064, 1065, 1066, 1067, 1068, 1069, 1070, 1071, 1072, 1073, 1074, 1075, 1076, 1077] (by decide +kernel) (by decide +kernel)
set_option maxRecDepth 20000 in
theorem gL_law_X11_fault : GoodIn wsL_law (wsV RL 26 RX11 yX11_fault wsX11_fault) := goodIn_app (goodIn_of _ (by decide +kernel)) ggL_law_X11_fault
set_option maxRecDepth 20000 in
theorem ggL_law_X10_told : GoodIn wsL_law wsX10_told := goodIn_r _ [378, 48, 196, 379, 380, 381, 15, 167, 19, 382, 383, 384, 385, 40, 194, 44, 195, 24, 386, 166, 387, 388, 389, 18, 390, 391, 59, 392, 393, 248, 249, 47, 250, 208, 394, 395, 396, 397, 61, 398, 399, 400, 401, 1022, 1023, 1024, 1025, 1026, 1027, 1028, 1029, 1030, 1031, 1032, 1115, 1116, 1117, 1118, 1119, 1120, 1121, 1122, 1123, 1124, 1125, 1126, 1127, 1078, 1079, 1080, 1081, 1082, 1083, 1084, 1085, 1086, 1087, 1088, 1089, 1090, 1091, 1104, 1105, 1106, 1107, 1108, 1109, 1110, 1111, 1112, 1113, 1114, 1092, 1093, 1094] (by decide +kernel) (by decide +kernel)
set_option maxRecDepth 20000 in
theorem gL_law_X10_told : GoodIn wsL_law (wsV RL 27 RX10 yX10_told wsX10_told) := goodIn_app (goodIn_of _ (by decide +kernel)) ggL_law_X10_told
set_option maxRecDepth 20000 in
theorem ggL_law_X11_told : GoodIn wsL_law wsX11_told := goodIn_r _ [405, 161, 363, 364, 365, 183, 138, 362, 294, 295, 296, 182, 406, 407, 408, 5, 409, 361, 341, 342, 343, 410, 411, 412, 413, 414, 415, 416, 417, 1033, 1034, 1035, 1036, 1037, 1038, 1039, 1040, 1041, 1042, 1043, 1044, 1045, 1046, 1047, 1048, 1049, 1050, 1051, 1052, 1053, 1054, 1055, 1056, 1057, 1058, 1059, 1060, 1061, 1062, 1063, 1064, 1065, 1066, 1067, 1068, 1069, 1070, 1071, 1072, 1073, 1074, 1075, 1076, 1077] (by decide +kernel) (by decide +kernel)
set_option maxRecDepth 20000 in
theorem gL_law_X11_told : GoodIn wsL_law (wsV RL 30 RX11 yX11_told wsX11_told) := goodIn_app (goodIn_of _ (by decide +kernel)) ggL_law_X11_told
set_option maxRecDepth 20000 in
theorem ggL_law_X10_snow : GoodIn wsL_law wsX10_snow := goodIn_r _ [421, 19, 422, 423, 424, 425, 426, 2, 427, 48, 196, 169, 170, 171, 1022, 1023, 1024, 1025, 1026, 1027, 1028, 1029, 1030, 1031, 1032, 1084, 1085, 1086, 1087, 1088, 1089, 1090, 1091, 1115, 1116, 1117, 1118, 1119, 1120, 1121, 1122, 1123, 1124, 1125, 1126, 1127] (by decide +kernel) (by decide +kernel)
set_option maxRecDepth 20000 in
theorem gL_law_X10_snow : GoodIn wsL_law (wsV RL 31 RX10 yX10_snow wsX10_snow) := goodIn_app (goodIn_of _ (by decide +kernel)) ggL_law_X10_snow
set_option maxRecDepth 20000 in
theorem ggL_law_X11_snow : GoodIn wsL_law wsX11_snow := goodIn_r _ [431, 138, 432, 433, 434, 435, 5, 436, 161, 185, 186, 187, 1033, 1034, 1035, 1036, 1037, 1038, 1039, 1040, 1041, 1042, 1043, 1044, 1045, 1046, 1047, 1048, 1049, 1050, 1051, 1052, 1053, 1054, 1055, 1056, 1057, 1058, 1059, 1060, 1061, 1062, 1063, 1064, 1065, 1066, 1067, 1068, 1069, 1070, 1071, 1072, 1073, 1074, 1075, 1076, 1077] (by decide +kernel) (by decide +kernel)
set_option maxRecDepth 20000 in
theorem gL_law_X11_snow : GoodIn wsL_law (wsV RL 34 RX11 yX11_snow wsX11_snow) := goodIn_app (goodIn_of _ (by decide +kernel)) ggL_law_X11_snow
set_option maxRecDepth 20000 in
theorem ggL_law_X10_post : GoodIn wsL_law wsX10_post := goodIn_r _ [440, 423, 19, 441, 48, 442, 443, 385, 166, 444, 445, 446, 2, 447, 379, 169, 170, 171, 1022, 1023, 1024, 1025, 1026, 1027, 1028, 1029, 1030, 1031, 1032, 1084, 1085, 1086, 1087, 1088, 1089, 1090, 1091, 1115, 1116, 1117, 1118, 1119, 1120, 1121, 1122, 1123, 1124, 1125, 1126, 1127] (by decide +kernel) (by decide +kernel)
set_option maxRecDepth 20000 in
theorem gL_law_X10_post : GoodIn wsL_law (wsV RL 35 RX10 yX10_post wsX10_post) := goodIn_app (goodIn_of _ (by decide +kernel)) ggL_law_X10_post
set_option maxRecDepth 20000 in
theorem ggL_law_X11_post : GoodIn wsL_law wsX11_post := goodIn_r _ [451, 432, 138, 134, 182, 452, 453, 454, 5, 455, 363, 185, 186, 187, 1033, 1034, 1035, 1036, 1037, 1038, 1039, 1040, 1041, 1042, 1043, 1044, 1045, 1046, 1047, 1048, 1049, 1050, 1051, 1052, 1053, 1054, 1055, 1056, 1057, 1058, 1059, 1060, 1061, 1062, 1063, 1064, 1065, 1066, 1067, 1068, 1069, 1070, 1071, 1072, 1073, 1074, 1075, 1076, 1077] (by decide +kernel) (by decide +kernel)
set_option maxRecDepth 20000 in
theorem gL_law_X11_post : GoodIn wsL_law (wsV RL 39 RX11 yX11_post wsX11_post) := goodIn_app (goodIn_of _ (by decide +kernel)) ggL_law_X11_post
set_option maxRecDepth 20000 in
theorem ggL_law_X10_crow : GoodIn wsL_law wsX10_crow := goodIn_r _ [459, 423, 19, 460, 48, 461, 462, 166, 463, 464, 465, 2, 466, 380, 169, 170, 171, 467, 468, 469, 18, 470, 61, 1022, 1023, 1024, 1025, 1026, 1027, 1028, 1029, 1030, 1031, 1032, 1084, 1085, 1086, 1087, 1088, 1089, 1090, 1091, 1115, 1116, 1117, 1118, 1119, 1120, 1121, 1122, 1123, 1124, 1125, 1126, 1127] (by decide +kernel) (by decide +kernel)
set_option maxRecDepth 20000 in
theorem gL_law_X10_crow : GoodIn wsL_law (wsV RL 40 RX10 yX10_crow wsX10_crow) := goodIn_app (goodIn_of _ (by decide +kernel)) ggL_law_X10_crow
set_option maxRecDepth 20000 in
theorem ggL_law_X11_crow : GoodIn wsL_law wsX11_crow := goodIn_r _ [474, 432, 138, 135, 182, 475, 476, 477, 5, 478, 364, 185, 186, 187, 479, 480, 481, 482, 363, 1033, 1034, 1035, 1036, 1037, 1038, 1039, 1040, 1041, 1042, 1043, 1044, 1045, 1046, 1047, 1048, 1049, 1050, 1051, 1052, 1053, 1054, 1055, 1056, 1057, 1058, 1059, 1060, 1061, 1062, 1063, 1064, 1065, 1066, 1067, 1068, 1069, 1070, 1071, 1072, 1073, 1074, 1075, 1076, 1077] (by decide +kernel) (by decide +kernel)
set_option maxRecDepth 20000 in
theorem gL_law_X11_crow : GoodIn wsL_law (wsV RL 43 RX11 yX11_crow wsX11_crow) := goodIn_app (goodIn_of _ (by decide +kernel)) ggL_law_X11_crow
set_option maxRecDepth 20000 in
theorem ggL_law_X10_hour : GoodIn wsL_law wsX10_hour := goodIn_r _ [486, 24, 19, 48, 487, 488, 489, 2, 490, 166, 196, 491, 382, 168, 169, 170, 171, 492, 493, 494, 23, 495, 496, 69, 284, 497, 498, 499, 500, 501, 502, 503, 18, 504, 59, 505, 506, 507, 508, 60, 61, 62, 63, 122, 123, 124, 394, 395, 396, 397, 509, 510, 511, 512, 513, 514, 515, 516, 517, 518, 519, 520, 521, 522, 523, 524, 391, 525, 526, 527, 528, 47, 529, 207, 530, 531, 532, 533, 398, 399, 400, 401, 1022, 1023, 1024, 1025, 1026, 1027, 1028, 1029, 1030, 1031, 1032, 1115, 1116, 1117, 1118, 1119, 1120, 1121, 1122, 1123, 1124, 1125, 1126, 1127, 1084, 1085, 1086, 1087, 1088, 1089, 1090, 1091, 1092, 1093, 1094] (by decide +kernel) (by decide +kernel)
set_option maxRecDepth 20000 in
theorem gL_law_X10_hour : GoodIn wsL_law (wsV RL 44 RX10 yX10_hour wsX10_hour) := goodIn_app (goodIn_of _ (by decide +kernel)) ggL_law_X10_hour
set_option maxRecDepth 20000 in
theorem ggL_law_X11_hour : GoodIn wsL_law wsX11_hour := goodIn_r _ [537, 538, 539, 540, 5, 541, 542, 182, 161, 543, 138, 184, 185, 186, 187, 544, 545, 546, 547, 296, 148, 548, 549, 550, 551, 365, 136, 137, 552, 553, 554, 555, 363, 360, 556, 557, 558, 559, 560, 561, 562, 563, 341, 342, 343, 564, 565, 566, 567, 568, 569, 570, 414, 415, 416, 417, 1033, 1034, 1035, 1036, 1037, 1038, 1039, 1040, 1041, 1042, 1043, 1044, 1045, 1046, 1047, 1048, 1049, 1050, 1051, 1052, 1053, 1054, 1055, 1056, 1057, 1058, 1059, 1060, 1061, 1062, 1063, 1064, 1065, 1066, 1067, 1068, 1069, 1070, 1071, 1072, 1073, 1074, 1075, 1076, 1077] (by decide +kernel) (by decide +kernel)
set_option maxRecDepth 20000 in
theorem gL_law_X11_hour : GoodIn wsL_law (wsV RL 47 RX11 yX11_hour wsX11_hour) := goodIn_app (goodIn_of _ (by decide +kernel)) ggL_law_X11_hour
set_option maxRecDepth 20000 in
theorem ggL_law_X10_let : GoodIn wsL_law wsX10_let := goodIn_r _ [574, 423, 19, 443, 491, 24, 48, 444, 445, 446, 2, 447, 379, 169, 170, 171, 463, 464, 465, 466, 380, 467, 468, 469, 18, 470, 61, 492, 493, 494, 23, 495, 496, 69, 284, 497, 498, 499, 500, 501, 502, 503, 504, 59, 505, 506, 507, 508, 60, 62, 63, 122, 123, 124, 575, 576, 577, 578, 579, 580, 581, 582, 583, 584, 585, 525, 1022, 1023, 1024, 1025, 1026, 1027, 1028, 1029, 1030, 1031, 1032, 1084, 1085, 1086, 1087, 1088, 1089, 1090, 1091, 1115, 1116, 1117, 1118, 1119, 1120, 1121, 1122, 1123, 1124, 1125, 1126, 1127, 1092, 1093, 1094] (by decide +kernel) (by decide +kernel)
set_option maxRecDepth 20000 in
theorem gL_law_X10_let : GoodIn wsL_law (wsV RL 48 RX10 yX10_let wsX10_let) := goodIn_app (goodIn_of _ (by decide +kernel)) ggL_law_X10_let
set_option maxRecDepth 20000 in
theorem ggL_law_X11_let : GoodIn wsL_law wsX11_let := goodIn_r _ [589, 432, 138, 543, 590, 452, 453, 454, 5, 455, 363, 185, 186, 187, 475, 476, 477, 478, 364, 479, 480, 481, 482, 544, 545, 546, 547, 296, 148, 591, 592, 593, 594, 135, 134, 568, 569, 570, 1033, 1034, 1035, 1036, 1037, 1038, 1039, 1040, 1041, 1042, 1043, 1044, 1045, 1046, 1047, 1048, 1049, 1050, 1051, 1052, 1053, 1054, 1055, 1056, 1057, 1058, 1059, 1060, 1061, 1062, 1063, 1064, 1065, 1066, 1067, 1068, 1069, 1070, 1071, 1072, 1073, 1074, 1075, 1076, 1077] (by decide +kernel) (by decide +kernel)
set_option maxRecDepth 20000 in
theorem gL_law_X11_let : GoodIn wsL_law (wsV RL 51 RX11 yX11_let wsX11_let) := goodIn_app (goodIn_of _ (by decide +kernel)) ggL_law_X11_let
set_option maxRecDepth 20000 in
theorem ggL_law_X10_giveUp : GoodIn wsL_law wsX10_giveUp := goodIn_r _ [598, 423, 19, 443, 491, 24, 444, 445, 446, 2, 447, 48, 379, 169, 170, 171, 492, 493, 494, 23, 495, 496, 69, 284, 497, 498, 499, 500, 501, 502, 503, 18, 504, 59, 505, 506, 507, 508, 60, 61, 62, 63, 122, 123, 124, 1022, 1023, 1024, 1025, 1026, 1027, 1028, 1029, 1030, 1031, 1032, 1084, 1085, 1086, 1087, 1088, 1089, 1090, 1091, 1115, 1116, 1117, 1118, 1119, 1120, 1121, 1122, 1123, 1124, 1125, 1126, 1127, 1092, 1093, 1094] (by decide +kernel) (by decide +kernel)
set_option maxRecDepth 20000 in
theorem gL_law_X10_giveUp : GoodIn wsL_law (wsV RL 52 RX10 yX10_giveUp wsX10_giveUp) := goodIn_app (goodIn_of _ (by decide +kernel)) ggL_law_X10_giveUp
set_option maxRecDepth 20000 in
theorem ggL_law_X11_giveUp : GoodIn wsL_law wsX11_giveUp := goodIn_r _ [602, 432, 138, 543, 452, 453, 454, 5, 455, 363, 185, 186, 187, 544, 545, 546, 547, 296, 148, 1033, 1034, 1035, 1036, 1037, 1038, 1039, 1040, 1041, 1042, 1043, 1044, 1045, 1046, 1047, 1048, 1049, 1050, 1051, 1052, 1053, 1054, 1055, 1056, 1057, 1058, 1059, 1060, 1061, 1062, 1063, 1064, 1065, 1066, 1067, 1068, 1069, 1070, 1071, 1072, 1073, 1074, 1075, 1076, 1077] (by decide +kernel) (by decide +kernel)
set_option maxRecDepth 20000 in
theorem gL_law_X11_giveUp : GoodIn wsL_law (wsV RL 55 RX11 yX11_giveUp wsX11_giveUp) := goodIn_app (goodIn_of _ (by decide +kernel)) ggL_law_X11_giveUp
set_option maxRecDepth 20000 in
theorem ggL_law_X10_move : GoodIn wsL_law wsX10_move := goodIn_r _ [606, 423, 19, 48, 491, 24, 441, 444, 445, 446, 2, 447, 379, 169, 170, 171, 607, 608, 609, 18, 610, 60, 391, 524, 492, 493, 494, 23, 495, 496, 69, 284, 497, 498, 499, 500, 501, 502, 503, 504, 59, 505, 506, 507, 508, 61, 62, 63, 122, 123, 124, 1022, 1023, 1024, 1025, 1026, 1027, 1028, 1029, 1030, 1031, 1032, 1084, 1085, 1086, 1087, 1088, 1089, 1090, 1091, 1115, 1116, 1117, 1118, 1119, 1120, 1121, 1122, 1123, 1124, 1125, 1126, 1127, 1092, 1093, 1094] (by decide +kernel) (by decide +kernel)
set_option maxRecDepth 20000 in
theorem gL_law_X10_move : GoodIn wsL_law (wsV RL 56 RX10 yX10_move wsX10_move) := goodIn_app (goodIn_of _ (by decide +kernel)) ggL_law_X10_move
set_option maxRecDepth 20000 in
theorem ggL_law_X11_move : GoodIn wsL_law wsX11_move := goodIn_r _ [614, 432, 138, 543, 452, 453, 454, 5, 455, 363, 185, 186, 187, 615, 616, 617, 618, 433, 434, 435, 436, 161, 544, 545, 546, 547, 296, 148, 1033, 1034, 1035, 1036, 1037, 1038, 1039, 1040, 1041, 1042, 1043, 1044, 1045, 1046, 1047, 1048, 1049, 1050, 1051, 1052, 1053, 1054, 1055, 1056, 1057, 1058, 1059, 1060, 1061, 1062, 1063, 1064, 1065, 1066, 1067, 1068, 1069, 1070, 1071, 1072, 1073, 1074, 1075, 1076, 1077] (by decide +kernel) (by decide +kernel)
set_option maxRecDepth 20000 in
theorem gL_law_X11_move : GoodIn wsL_law (wsV RL 60 RX11 yX11_move wsX11_move) := goodIn_app (goodIn_of _ (by decide +kernel)) ggL_law_X11_move
set_option maxRecDepth 20000 in
theorem ggL_law_X10_thaw : GoodIn wsL_law wsX10_thaw := goodIn_r _ [622, 166, 48, 196, 491, 24, 19, 169, 170, 2, 171, 492, 493, 494, 23, 495, 496, 69, 284, 497, 498, 499, 500, 501, 502, 503, 18, 504, 59, 505, 506, 507, 508, 60, 61, 62, 63, 122, 123, 124, 623, 624, 625, 626, 627, 628, 629, 398, 399, 400, 401, 1022, 1023, 1024, 1025, 1026, 1027, 1028, 1029, 1030, 1031, 1032, 1115, 1116, 1117, 1118, 1119, 1120, 1121, 1122, 1123, 1124, 1125, 1126, 1127, 1092, 1093, 1094, 1084, 1085, 1086, 1087, 1088, 1089, 1090, 1091] (by decide +kernel) (by decide +kernel)
set_option maxRecDepth 20000 in
theorem gL_law_X10_thaw : GoodIn wsL_law (wsV RL 61 RX10 yX10_thaw wsX10_thaw) := goodIn_app (goodIn_of _ (by decide +kernel)) ggL_law_X10_thaw
set_option maxRecDepth 20000 in
theorem ggL_law_X11_thaw : GoodIn wsL_law wsX11_thaw := goodIn_r _ [633, 634, 182, 161, 543, 138, 185, 186, 5, 187, 544, 545, 546, 547, 296, 148, 414, 415, 416, 417, 1033, 1034, 1035, 1036, 1037, 1038, 1039, 1040, 1041, 1042, 1043, 1044, 1045, 1046, 1047, 1048, 1049, 1050, 1051, 1052, 1053, 1054, 1055, 1056, 1057, 1058, 1059, 1060, 1061, 1062, 1063, 1064, 1065, 1066, 1067, 1068, 1069, 1070, 1071, 1072, 1073, 1074, 1075, 1076, 1077] (by decide +kernel) (by decide +kernel)
set_option maxRecDepth 20000 in
theorem gL_law_X11_thaw : GoodIn wsL_law (wsV RL 64 RX11 yX11_thaw wsX11_thaw) := goodIn_app (goodIn_of _ (by decide +kernel)) ggL_law_X11_thaw
set_option maxRecDepth 20000 in
theorem ggL_law_X10_shout : GoodIn wsL_law wsX10_shout := goodIn_r _ [638, 423, 24, 19, 460, 639, 628, 499, 629, 463, 464, 465, 2, 466, 48, 380, 169, 170, 171, 492, 493, 494, 23, 495, 496, 69, 284, 497, 498, 500, 501, 502, 503, 18, 504, 59, 505, 506, 507, 508, 60, 61, 62, 63, 122, 123, 124, 1022, 1023, 1024, 1025, 1026, 1027, 1028, 1029, 1030, 1031, 1032, 1084, 1085, 1086, 1087, 1088, 1089, 1090, 1091, 1115, 1116, 1117, 1118, 1119, 1120, 1121, 1122, 1123, 1124, 1125, 1126, 1127, 1092, 1093, 1094] (by decide +kernel) (by decide +kernel)
set_option maxRecDepth 20000 in
theorem gL_law_X10_shout : GoodIn wsL_law (wsV RL 65 RX10 yX10_shout wsX10_shout) := goodIn_app (goodIn_of _ (by decide +kernel)) ggL_law_X10_shout
set_option maxRecDepth 20000 in
theorem ggL_law_X11_shout : GoodIn wsL_law wsX11_shout := goodIn_r _ [643, 432, 138, 475, 476, 477, 5, 478, 364, 185, 186, 187, 544, 545, 546, 547, 296, 148, 1033, 1034, 1035, 1036, 1037, 1038, 1039, 1040, 1041, 1042, 1043, 1044, 1045, 1046, 1047, 1048, 1049, 1050, 1051, 1052, 1053, 1054, 1055, 1056, 1057, 1058, 1059, 1060, 1061, 1062, 1063, 1064, 1065, 1066, 1067, 1068, 1069, 1070, 1071, 1072, 1073, 1074, 1075, 1076, 1077] (by decide +kernel) (by decide +kernel)
set_option maxRecDepth 20000 in
theorem gL_law_X11_shout : GoodIn wsL_law (wsV RL 68 RX11 yX11_shout wsX11_shout) := goodIn_app (goodIn_of _ (by decide +kernel)) ggL_law_X11_shout
set_option maxRecDepth 20000 in
theorem ggL_law_X10_drift : GoodIn wsL_law wsX10_drift := goodIn_r _ [647, 24, 19, 28, 48, 487, 488, 489, 2, 490, 166, 196, 491, 382, 168, 169, 170, 171, 492, 493, 494, 23, 495, 496, 69, 284, 497, 498, 499, 500, 501, 502, 503, 18, 504, 59, 505, 506, 507, 508, 60, 61, 62, 63, 122, 123, 124, 394, 395, 396, 397, 648, 649, 650, 27, 651, 652, 653, 654, 655, 656, 657, 517, 518, 519, 520, 521, 522, 523, 524, 391, 525, 526, 527, 528, 47, 529, 207, 530, 531, 532, 533, 398, 399, 400, 401, 1022, 1023, 1024, 1025, 1026, 1027, 1028, 1029, 1030, 1031, 1032, 1115, 1116, 1117, 1118, 1119, 1120, 1121, 1122, 1123, 1124, 1125, 1126, 1127, 1084, 1085, 1086, 1087, 1088, 1089, 1090, 1091, 1092, 1093, 1094, 1095] (by decide +kernel) (by decide +kernel)
set_option maxRecDepth 20000 in
theorem gL_law_X10_drift : GoodIn wsL_law (wsV RL 69 RX10 yX10_drift wsX10_drift) := goodIn_app (goodIn_of _ (by decide +kernel)) ggL_law_X10_drift
set_option maxRecDepth 20000 in
theorem ggL_law_X11_drift : GoodIn wsL_law wsX11_drift := goodIn_r _ [661, 538, 539, 540, 5, 541, 542, 182, 161, 543, 138, 184, 185, 186, 187, 544, 545, 546, 547, 296, 148, 662, 663, 664, 665, 666, 667, 668, 669, 670, 552, 553, 554, 555, 363, 360, 556, 557, 558, 559, 560, 561, 562, 563, 341, 342, 343, 564, 565, 566, 567, 568, 569, 570, 414, 415, 416, 417, 1033, 1034, 1035, 1036, 1037, 1038, 1039, 1040, 1041, 1042, 1043, 1044, 1045, 1046, 1047, 1048, 1049, 1050, 1051, 1052, 1053, 1054, 1055, 1056, 1057, 1058, 1059, 1060, 1061, 1062, 1063, 1064, 1065, 1066, 1067, 1068, 1069, 1070, 1071, 1072, 1073, 1074, 1075, 1076, 1077] (by decide +kernel) (by decide +kernel)
set_option maxRecDepth 20000 in
theorem gL_law_X11_drift : GoodIn wsL_law (wsV RL 72 RX11 yX11_drift wsX11_drift) := goodIn_app (goodIn_of _ (by decide +kernel)) ggL_law_X11_drift
set_option maxRecDepth 20000 in
theorem ggL_law_X10_undo : GoodIn wsL_law wsX10_undo := goodIn_r _ [674, 24, 386, 491, 19, 675, 676, 677, 23, 678, 69, 496, 284, 501, 502, 503, 18, 504, 59, 505, 506, 507, 508, 60, 61, 62, 63, 122, 123, 124, 1022, 1023, 1024, 1025, 1026, 1027, 1028, 1029, 1030, 1031, 1032, 1092, 1093, 1094, 1084, 1085, 1086, 1087, 1088, 1089, 1090, 1091] (by decide +kernel) (by decide +kernel)
set_option maxRecDepth 20000 in
theorem gL_law_X10_undo : GoodIn wsL_law (wsV RL 73 RX10 yX10_undo wsX10_undo) := goodIn_app (goodIn_of _ (by decide +kernel)) ggL_law_X10_undo
set_option maxRecDepth 20000 in
theorem ggL_law_X11_undo : GoodIn wsL_law wsX11_undo := goodIn_r _ [682, 296, 543, 138, 148, 1033, 1034, 1035, 1036, 1037, 1038, 1039, 1040, 1041, 1042, 1043, 1044, 1045, 1046, 1047, 1048, 1049, 1050, 1051, 1052, 1053, 1054, 1055, 1056, 1057, 1058, 1059, 1060, 1061, 1062, 1063, 1064, 1065, 1066, 1067, 1068, 1069, 1070, 1071, 1072, 1073, 1074, 1075, 1076, 1077] (by decide +kernel) (by decide +kernel)
set_option maxRecDepth 20000 in
theorem gL_law_X11_undo : GoodIn wsL_law (wsV RL 76 RX11 yX11_undo wsX11_undo) := goodIn_app (goodIn_of _ (by decide +kernel)) ggL_law_X11_undo
set_option maxRecDepth 20000 in
theorem ggL_law_X10_lies : GoodIn wsL_law wsX10_lies := goodIn_r _ [686, 423, 166, 20, 422, 424, 425, 426, 2, 427, 48, 196, 169, 170, 171, 687, 688, 689, 690, 19, 691, 502, 503, 18, 504, 59, 505, 506, 507, 508, 60, 61, 62, 63, 122, 123, 124, 394, 395, 396, 397, 509, 510, 511, 512, 513, 514, 515, 516, 517, 518, 519, 520, 521, 499, 522, 523, 524, 391, 525, 498, 500, 526, 527, 528, 47, 529, 207, 530, 531, 532, 533, 1022, 1023, 1024, 1025, 1026, 1027, 1028, 1029, 1030, 1031, 1032, 1084, 1085, 1086, 1087, 1088, 1089, 1090, 1091, 1115, 1116, 1117, 1118, 1119, 1120, 1121, 1122, 1123, 1124, 1125, 1126, 1127] (by decide +kernel) (by decide +kernel)
set_option maxRecDepth 20000 in
theorem gL_law_X10_lies : GoodIn wsL_law (wsV RL 77 RX10 yX10_lies wsX10_lies) := goodIn_app (goodIn_of _ (by decide +kernel)) ggL_law_X10_lies
set_option maxRecDepth 20000 in
theorem ggL_law_X11_lies : GoodIn wsL_law wsX11_lies := goodIn_r _ [695, 432, 696, 182, 138, 433, 434, 435, 5, 436, 161, 185, 186, 187, 697, 698, 699, 700, 149, 701, 702, 703, 704, 548, 549, 550, 551, 365, 136, 137, 552, 553, 554, 555, 363, 360, 556, 557, 558, 559, 560, 561, 562, 563, 341, 342, 343, 564, 565, 566, 567, 568, 569, 570, 705, 706, 707, 708, 1033, 1034, 1035, 1036, 1037, 1038, 1039, 1040, 1041, 1042, 1043, 1044, 1045, 1046, 1047, 1048, 1049, 1050, 1051, 1052, 1053, 1054, 1055, 1056, 1057, 1058, 1059, 1060, 1061, 1062, 1063, 1064, 1065, 1066, 1067, 1068, 1069, 1070, 1071, 1072, 1073, 1074, 1075, 1076, 1077] (by decide +kernel) (by decide +kernel)
set_option maxRecDepth 20000 in
theorem gL_law_X11_lies : GoodIn wsL_law (wsV RL 80 RX11 yX11_lies wsX11_lies) := goodIn_app (goodIn_of _ (by decide +kernel)) ggL_law_X11_lies
set_option maxRecDepth 20000 in
theorem ggL_law_X10_open : GoodIn wsL_law wsX10_open := goodIn_r _ [712, 166, 20, 48, 169, 170, 2, 171, 687, 688, 689, 690, 19, 691, 502, 503, 18, 504, 59, 505, 506, 507, 508, 60, 61, 62, 63, 122, 123, 124, 394, 395, 396, 397, 509, 510, 511, 512, 513, 514, 515, 516, 517, 518, 519, 520, 521, 499, 522, 523, 524, 391, 525, 498, 500, 526, 527, 528, 47, 529, 207, 530, 531, 532, 533, 713, 714, 715, 716, 717, 718, 388, 389, 390, 392, 393, 248, 249, 250, 208, 1022, 1023, 1024, 1025, 1026, 1027, 1028, 1029, 1030, 1031, 1032, 1084, 1085, 1086, 1087, 1088, 1089, 1090, 1091, 1115, 1116, 1117, 1118, 1119, 1120, 1121, 1122, 1123, 1124, 1125, 1126, 1127] (by decide +kernel) (by decide +kernel)
set_option maxRecDepth 20000 in
theorem gL_law_X10_open : GoodIn wsL_law (wsV RL 81 RX10 yX10_open wsX10_open) := goodIn_app (goodIn_of _ (by decide +kernel)) ggL_law_X10_open
set_option maxRecDepth 20000 in
theorem ggL_law_X11_open : GoodIn wsL_law wsX11_open := goodIn_r _ [722, 696, 182, 362, 185, 186, 5, 187, 697, 698, 699, 700, 149, 138, 701, 702, 703, 704, 548, 549, 550, 551, 365, 136, 137, 552, 553, 554, 555, 363, 360, 161, 556, 557, 558, 559, 560, 561, 562, 563, 341, 342, 343, 564, 565, 566, 567, 568, 569, 570, 406, 407, 408, 409, 361, 705, 706, 707, 708, 1033, 1034, 1035, 1036, 1037, 1038, 1039, 1040, 1041, 1042, 1043, 1044, 1045, 1046, 1047, 1048, 1049, 1050, 1051, 1052, 1053, 1054, 1055, 1056, 1057, 1058, 1059, 1060, 1061, 1062, 1063, 1064, 1065, 1066, 1067, 1068, 1069, 1070, 1071, 1072, 1073, 1074, 1075, 1076, 1077] (by decide +kernel) (by decide +kernel)
set_option maxRecDepth 20000 in
theorem gL_law_X11_open : GoodIn wsL_law (wsV RL 84 RX11 yX11_open wsX11_open) := goodIn_app (goodIn_of _ (by decide +kernel)) ggL_law_X11_open
set_option maxRecDepth 20000 in
theorem ggL_law_X10_worth : GoodIn wsL_law wsX10_worth := goodIn_r _ [726, 19, 48, 423, 444, 445, 446, 2, 447, 379, 169, 170, 171, 463, 464, 465, 466, 380, 575, 576, 577, 18, 578, 62, 579, 580, 1022, 1023, 1024, 1025, 1026, 1027, 1028, 1029, 1030, 1031, 1032, 1115, 1116, 1117, 1118, 1119, 1120, 1121, 1122, 1123, 1124, 1125, 1126, 1127, 1084, 1085, 1086, 1087, 1088, 1089, 1090, 1091] (by decide +kernel) (by decide +kernel)
set_option maxRecDepth 20000 in
theorem gL_law_X10_worth : GoodIn wsL_law (wsV RL 85 RX10 yX10_worth wsX10_worth) := goodIn_app (goodIn_of _ (by decide +kernel)) ggL_law_X10_worth
set_option maxRecDepth 20000 in
theorem ggL_law_X11_worth : GoodIn wsL_law wsX11_worth := goodIn_r _ [730, 432, 452, 453, 454, 5, 455, 363, 185, 186, 187, 475, 476, 477, 478, 364, 591, 592, 593, 594, 138, 135, 134, 1033, 1034, 1035, 1036, 1037, 1038, 1039, 1040, 1041, 1042, 1043, 1044, 1045, 1046, 1047, 1048, 1049, 1050, 1051, 1052, 1053, 1054, 1055, 1056, 1057, 1058, 1059, 1060, 1061, 1062, 1063, 1064, 1065, 1066, 1067, 1068, 1069, 1070, 1071, 1072, 1073, 1074, 1075, 1076, 1077] (by decide +kernel) (by decide +kernel)
set_option maxRecDepth 20000 in
theorem gL_law_X11_worth : GoodIn wsL_law (wsV RL 88 RX11 yX11_worth wsX11_worth) := goodIn_app (goodIn_of _ (by decide +kernel)) ggL_law_X11_worth
set_option maxRecDepth 20000 in
theorem ggL_law_X10_lets : GoodIn wsL_law wsX10_lets := goodIn_r _ [734, 423, 166, 36, 48, 19, 735, 736, 444, 445, 446, 2, 447, 379, 169, 170, 171, 737, 738, 739, 35, 740, 88, 741, 742, 743, 744, 81, 745, 746, 506, 507, 508, 747, 748, 749, 750, 82, 751, 752, 753, 87, 754, 755, 756, 757, 758, 759, 760, 761, 762, 763, 764, 765, 92, 766, 767, 768, 769, 770, 771, 772, 773, 774, 576, 577, 18, 578, 62, 579, 580, 775, 776, 777, 778, 779, 780, 781, 782, 84, 783, 784, 502, 503, 504, 59, 505, 60, 61, 63, 122, 123, 124, 785, 126, 127, 47, 128, 129, 786, 714, 715, 716, 717, 718, 388, 389, 390, 391, 392, 393, 248, 249, 250, 208, 787, 510, 511, 512, 513, 514, 515, 516, 517, 518, 519, 520, 521, 499, 522, 523, 524, 525, 498, 500, 526, 527, 528, 529, 207, 530, 531, 532, 533, 788, 789, 790, 791, 1022, 1023, 1024, 1025, 1026, 1027, 1028, 1029, 1030, 1031, 1032, 1099, 1100, 1101, 1102, 1103, 1115, 1116, 1117, 1118, 1119, 1120, 1121, 1122, 1123, 1124, 1125, 1126, 1127, 1128, 1129, 1130, 1131, 1132, 1133, 1084, 1085, 1086, 1087, 1088, 1089, 1090, 1091] (by decide +kernel) (by decide +kernel)
set_option maxRecDepth 20000 in
theorem gL_law_X10_lets : GoodIn wsL_law (wsV RL 89 RX10 yX10_lets wsX10_lets) := goodIn_app (goodIn_of _ (by decide +kernel)) ggL_law_X10_lets
set_option maxRecDepth 20000 in
theorem ggL_law_X11_lets : GoodIn wsL_law wsX11_lets := goodIn_r _ [795, 432, 696, 182, 151, 363, 153, 152, 452, 453, 454, 5, 455, 185, 186, 187, 796, 797, 798, 799, 138, 362, 697, 698, 699, 700, 149, 341, 342, 343, 701, 702, 703, 704, 548, 549, 550, 551, 365, 136, 137, 552, 553, 554, 555, 360, 161, 556, 557, 558, 559, 560, 561, 562, 563, 564, 565, 566, 567, 568, 569, 570, 406, 407, 408, 409, 361, 705, 706, 707, 708, 800, 801, 802, 803, 804, 805, 806, 807, 364, 808, 809, 810, 811, 812, 813, 814, 815, 591, 592, 593, 594, 135, 134, 1033, 1034, 1035, 1036, 1037, 1038, 1039, 1040, 1041, 1042, 1043, 1044, 1045, 1046, 1047, 1048, 1049, 1050, 1051, 1052, 1053, 1054, 1055, 1056, 1057, 1058, 1059, 1060, 1061, 1062, 1063, 1064, 1065, 1066, 1067, 1068, 1069, 1070, 1071, 1072, 1073, 1074, 1075, 1076, 1077] (by decide +kernel) (by decide +kernel)
set_option maxRecDepth 20000 in
theorem gL_law_X11_lets : GoodIn wsL_law (wsV RL 92 RX11 yX11_lets wsX11_lets) := goodIn_app (goodIn_of _ (by decide +kernel)) ggL_law_X11_lets
set_option maxRecDepth 20000 in
theorem ggL_law_X10_fewest : GoodIn wsL_law wsX10_fewest := goodIn_r _ [819, 166, 36, 48, 19, 169, 170, 2, 171, 820, 821, 822, 35, 823, 745, 785, 126, 127, 47, 128, 129, 824, 825, 826, 827, 828, 829, 830, 779, 780, 781, 782, 84, 783, 784, 502, 503, 18, 504, 59, 505, 506, 507, 508, 60, 61, 62, 63, 122, 123, 124, 786, 714, 715, 716, 717, 718, 388, 389, 390, 391, 392, 393, 248, 249, 250, 208, 787, 510, 511, 512, 513, 514, 515, 516, 517, 518, 519, 520, 521, 499, 522, 523, 524, 525, 498, 500, 526, 527, 528, 529, 207, 530, 531, 532, 533, 1022, 1023, 1024, 1025, 1026, 1027, 1028, 1029, 1030, 1031, 1032, 1115, 1116, 1117, 1118, 1119, 1120, 1121, 1122, 1123, 1124, 1125, 1126, 1127, 1099, 1100, 1101, 1102, 1103, 1084, 1085, 1086, 1087, 1088, 1089, 1090, 1091] (by decide +kernel) (by decide +kernel)
set_option maxRecDepth 20000 in
theorem gL_law_X10_fewest : GoodIn wsL_law (wsV RL 93 RX10 yX10_fewest wsX10_fewest) := goodIn_app (goodIn_of _ (by decide +kernel)) ggL_law_X10_fewest
set_option maxRecDepth 20000 in
theorem ggL_law_X11_fewest : GoodIn wsL_law wsX11_fewest := goodIn_r _ [834, 696, 182, 363, 151, 185, 186, 5, 187, 796, 797, 798, 799, 138, 362, 697, 698, 699, 700, 149, 341, 342, 343, 701, 702, 703, 704, 548, 549, 550, 551, 365, 136, 137, 552, 553, 554, 555, 360, 161, 556, 557, 558, 559, 560, 561, 562, 563, 564, 565, 566, 567, 568, 569, 570, 406, 407, 408, 409, 361, 705, 706, 707, 708, 835, 836, 837, 1033, 1034, 1035, 1036, 1037, 1038, 1039, 1040, 1041, 1042, 1043, 1044, 1045, 1046, 1047, 1048, 1049, 1050, 1051, 1052, 1053, 1054, 1055, 1056, 1057, 1058, 1059, 1060, 1061, 1062, 1063, 1064, 1065, 1066, 1067, 1068, 1069, 1070, 1071, 1072, 1073, 1074, 1075, 1076, 1077] (by decide +kernel) (by decide +kernel)
set_option maxRecDepth 20000 in
theorem gL_law_X11_fewest : GoodIn wsL_law (wsV RL 96 RX11 yX11_fewest wsX11_fewest) := goodIn_app (goodIn_of _ (by decide +kernel)) ggL_law_X11_fewest
set_option maxRecDepth 20000 in
theorem ggL_law_X10_yard : GoodIn wsL_law wsX10_yard := goodIn_r _ [841, 423, 166, 19, 48, 20, 422, 441, 444, 445, 446, 2, 447, 379, 169, 170, 171, 424, 425, 426, 427, 196, 607, 608, 609, 18, 610, 60, 391, 524, 687, 688, 689, 690, 691, 502, 503, 504, 59, 505, 506, 507, 508, 61, 62, 63, 122, 123, 124, 394, 395, 396, 397, 509, 510, 511, 512, 513, 514, 515, 516, 517, 518, 519, 520, 521, 499, 522, 523, 525, 498, 500, 526, 527, 528, 47, 529, 207, 530, 531, 532, 533, 1022, 1023, 1024, 1025, 1026, 1027, 1028, 1029, 1030, 1031, 1032, 1084, 1085, 1086, 1087, 1088, 1089, 1090, 1091, 1115, 1116, 1117, 1118, 1119, 1120, 1121, 1122, 1123, 1124, 1125, 1126, 1127] (by decide +kernel) (by decide +kernel)
set_option maxRecDepth 20000 in
theorem gL_law_X10_yard : GoodIn wsL_law (wsV RL 97 RX10 yX10_yard wsX10_yard) := goodIn_app (goodIn_of _ (by decide +kernel)) ggL_law_X10_yard
set_option maxRecDepth 20000 in
theorem ggL_law_X11_yard : GoodIn wsL_law wsX11_yard := goodIn_r _ [845, 432, 696, 182, 138, 452, 453, 454, 5, 455, 363, 185, 186, 187, 433, 434, 435, 436, 161, 615, 616, 617, 618, 846, 693, 694, 695, 697, 698, 699, 700, 149, 701, 702, 703, 704, 548, 549, 550, 551, 365, 136, 137, 552, 553, 554, 555, 360, 556, 557, 558, 559, 560, 561, 562, 563, 341, 342, 343, 564, 565, 566, 567, 568, 569, 570, 705, 706, 707, 708, 1033, 1034, 1035, 1036, 1037, 1038, 1039, 1040, 1041, 1042, 1043, 1044, 1045, 1046, 1047, 1048, 1049, 1050, 1051, 1052, 1053, 1054, 1055, 1056, 1057, 1058, 1059, 1060, 1061, 1062, 1063, 1064, 1065, 1066, 1067, 1068, 1069, 1070, 1071, 1072, 1073, 1074, 1075, 1076, 1077] (by decide +kernel) (by decide +kernel)
set_option maxRecDepth 20000 in
theorem gL_law_X11_yard : GoodIn wsL_law (wsV RL 101 RX11 yX11_yard wsX11_yard) := goodIn_app (goodIn_of _ (by decide +kernel)) ggL_law_X11_yard
set_option maxRecDepth 20000 in
theorem ggL_law_X10_out : GoodIn wsL_law wsX10_out := goodIn_r _ [850, 423, 166, 19, 422, 424, 425, 426, 2, 427, 48, 196, 169, 170, 171, 1022, 1023, 1024, 1025, 1026, 1027, 1028, 1029, 1030, 1031, 1032, 1084, 1085, 1086, 1087, 1088, 1089, 1090, 1091, 1115, 1116, 1117, 1118, 1119, 1120, 1121, 1122, 1123, 1124, 1125, 1126, 1127] (by decide +kernel) (by decide +kernel)
set_option maxRecDepth 20000 in
theorem gL_law_X10_out : GoodIn wsL_law (wsV RL 102 RX10 yX10_out wsX10_out) := goodIn_app (goodIn_of _ (by decide +kernel)) ggL_law_X10_out
set_option maxRecDepth 20000 in
theorem ggL_law_X11_out : GoodIn wsL_law wsX11_out := goodIn_r _ [854, 432, 634, 138, 182, 433, 434, 435, 5, 436, 161, 185, 186, 187, 1033, 1034, 1035, 1036, 1037, 1038, 1039, 1040, 1041, 1042, 1043, 1044, 1045, 1046, 1047, 1048, 1049, 1050, 1051, 1052, 1053, 1054, 1055, 1056, 1057, 1058, 1059, 1060, 1061, 1062, 1063, 1064, 1065, 1066, 1067, 1068, 1069, 1070, 1071, 1072, 1073, 1074, 1075, 1076, 1077] (by decide +kernel) (by decide +kernel)
set_option maxRecDepth 20000 in
theorem gL_law_X11_out : GoodIn wsL_law (wsV RL 105 RX11 yX11_out wsX11_out) := goodIn_app (goodIn_of _ (by decide +kernel)) ggL_law_X11_out
set_option maxRecDepth 20000 in
theorem ggL_law_X10_still : GoodIn wsL_law wsX10_still := goodIn_r _ [858, 166, 859, 860, 169, 170, 2, 171] (by decide +kernel) (by decide +kernel)
set_option maxRecDepth 20000 in
theorem gL_law_X10_still : GoodIn wsL_law (wsV RL 106 RX10 yX10_still wsX10_still) := goodIn_app (goodIn_of _ (by decide +kernel)) ggL_law_X10_still
set_option maxRecDepth 20000 in
theorem ggL_law_X11_still : GoodIn wsL_law wsX11_still := goodIn_r _ [864, 542, 865, 182, 866, 185, 186, 5, 187] (by decide +kernel) (by decide +kernel)
set_option maxRecDepth 20000 in
theorem gL_law_X11_still : GoodIn wsL_law (wsV RL 109 RX11 yX11_still wsX11_still) := goodIn_app (goodIn_of _ (by decide +kernel)) ggL_law_X11_still
set_option maxRecDepth 20000 in
theorem ggL_law_X10_see : GoodIn wsL_law wsX10_see := goodIn_r _ [870, 423, 40, 194, 168, 463, 464, 465, 2, 466, 48, 380, 169, 170, 171, 444, 445, 446, 447, 379, 871, 872, 873, 39, 874, 96, 875, 97, 1022, 1023, 1024, 1025, 1026, 1027, 1028, 1029, 1030, 1031, 1032, 1104, 1105, 1106, 1107, 1108, 1109, 1110, 1111, 1115, 1116, 1117, 1118, 1119, 1120, 1121, 1122, 1123, 1124, 1125, 1126, 1127] (by decide +kernel) (by decide +kernel)
set_option maxRecDepth 20000 in
theorem gL_law_X10_see : GoodIn wsL_law (wsV RL 110 RX10 yX10_see wsX10_see) := goodIn_app (goodIn_of _ (by decide +kernel)) ggL_law_X10_see
set_option maxRecDepth 20000 in
theorem ggL_law_X11_see : GoodIn wsL_law wsX11_see := goodIn_r _ [879, 432, 294, 184, 154, 155, 475, 476, 477, 5, 478, 364, 185, 186, 187, 452, 453, 454, 455, 363, 1033, 1034, 1035, 1036, 1037, 1038, 1039, 1040, 1041, 1042, 1043, 1044, 1045, 1046, 1047, 1048, 1049, 1050, 1051, 1052, 1053, 1054, 1055, 1056, 1057, 1058, 1059, 1060, 1061, 1062, 1063, 1064, 1065, 1066, 1067, 1068, 1069, 1070, 1071, 1072, 1073, 1074, 1075, 1076, 1077] (by decide +kernel) (by decide +kernel)
set_option maxRecDepth 20000 in
theorem gL_law_X11_see : GoodIn wsL_law (wsV RL 113 RX11 yX11_see wsX11_see) := goodIn_app (goodIn_of _ (by decide +kernel)) ggL_law_X11_see
set_option maxRecDepth 20000 in
theorem ggL_law_X10_sublets : GoodIn wsL_law wsX10_sublets := goodIn_r _ [883, 40, 19, 166, 884, 885, 886, 39, 887, 888, 98, 889, 890, 891, 892, 893, 875, 97, 96, 894, 895, 896, 897, 1022, 1023, 1024, 1025, 1026, 1027, 1028, 1029, 1030, 1031, 1032, 1084, 1085, 1086, 1087, 1088, 1089, 1090, 1091, 1104, 1105, 1106, 1107, 1108, 1109, 1110, 1111] (by decide +kernel) (by decide +kernel)
set_option maxRecDepth 20000 in
theorem gL_law_X10_sublets : GoodIn wsL_law (wsV RL 114 RX10 yX10_sublets wsX10_sublets) := goodIn_app (goodIn_of _ (by decide +kernel)) ggL_law_X10_sublets
set_option maxRecDepth 20000 in
theorem ggL_law_X11_sublets : GoodIn wsL_law wsX11_sublets := goodIn_r _ [901, 182, 363, 138, 185, 186, 5, 187, 902, 903, 904, 905, 294, 155, 154, 341, 342, 343, 1033, 1034, 1035, 1036, 1037, 1038, 1039, 1040, 1041, 1042, 1043, 1044, 1045, 1046, 1047, 1048, 1049, 1050, 1051, 1052, 1053, 1054, 1055, 1056, 1057, 1058, 1059, 1060, 1061, 1062, 1063, 1064, 1065, 1066, 1067, 1068, 1069, 1070, 1071, 1072, 1073, 1074, 1075, 1076, 1077] (by decide +kernel) (by decide +kernel)
set_option maxRecDepth 20000 in
theorem gL_law_X11_sublets : GoodIn wsL_law (wsV RL 117 RX11 yX11_sublets wsX11_sublets) := goodIn_app (goodIn_of _ (by decide +kernel)) ggL_law_X11_sublets
set_option maxRecDepth 20000 in
theorem ggL_law_X10_fit : GoodIn wsL_law wsX10_fit := goodIn_r _ [909, 166, 40, 48, 910, 379, 169, 170, 2, 171, 911, 912, 913, 39, 914, 915, 99, 101, 916, 917, 889, 890, 891, 892, 893, 98, 875, 97, 96, 918, 752, 753, 87, 754, 755, 756, 757, 758, 759, 760, 761, 762, 763, 764, 765, 92, 766, 767, 768, 769, 919, 920, 921, 922, 923, 924, 925, 926, 927, 928, 929, 930, 931, 932, 789, 790, 791, 933, 934, 935, 936, 937, 825, 826, 827, 828, 829, 830, 1022, 1023, 1024, 1025, 1026, 1027, 1028, 1029, 1030, 1031, 1032, 1104, 1105, 1106, 1107, 1108, 1109, 1110, 1111, 1115, 1116, 1117, 1118, 1119, 1120, 1121, 1122, 1123, 1124, 1125, 1126, 1127, 1128, 1129, 1130, 1131, 1132, 1133] (by decide +kernel) (by decide +kernel)
set_option maxRecDepth 20000 in
theorem gL_law_X10_fit : GoodIn wsL_law (wsV RL 118 RX10 yX10_fit wsX10_fit) := goodIn_app (goodIn_of _ (by decide +kernel)) ggL_law_X10_fit
set_option maxRecDepth 20000 in
theorem ggL_law_X11_fit : GoodIn wsL_law wsX11_fit := goodIn_r _ [941, 182, 156, 363, 152, 185, 186, 5, 187, 800, 801, 802, 803, 804, 805, 806, 807, 364, 341, 342, 343, 942, 943, 944, 945, 902, 903, 904, 905, 294, 155, 154, 946, 947, 948, 949, 835, 836, 837, 1033, 1034, 1035, 1036, 1037, 1038, 1039, 1040, 1041, 1042, 1043, 1044, 1045, 1046, 1047, 1048, 1049, 1050, 1051, 1052, 1053, 1054, 1055, 1056, 1057, 1058, 1059, 1060, 1061, 1062, 1063, 1064, 1065, 1066, 1067, 1068, 1069, 1070, 1071, 1072, 1073, 1074, 1075, 1076, 1077] (by decide +kernel) (by decide +kernel)
set_option maxRecDepth 20000 in
theorem gL_law_X11_fit : GoodIn wsL_law (wsV RL 121 RX11 yX11_fit wsX11_fit) := goodIn_app (goodIn_of _ (by decide +kernel)) ggL_law_X11_fit
set_option maxRecDepth 20000 in
theorem ggL_law_X10_write : GoodIn wsL_law wsX10_write := goodIn_r _ [953, 423, 166, 44, 195, 168, 424, 425, 426, 2, 427, 48, 196, 169, 170, 171, 954, 955, 956, 43, 957, 105, 958, 106, 1022, 1023, 1024, 1025, 1026, 1027, 1028, 1029, 1030, 1031, 1032, 1112, 1113, 1114, 1115, 1116, 1117, 1118, 1119, 1120, 1121, 1122, 1123, 1124, 1125, 1126, 1127] (by decide +kernel) (by decide +kernel)
set_option maxRecDepth 20000 in
theorem gL_law_X10_write : GoodIn wsL_law (wsV RL 122 RX10 yX10_write wsX10_write) := goodIn_app (goodIn_of _ (by decide +kernel)) ggL_law_X10_write
set_option maxRecDepth 20000 in
theorem ggL_law_X11_write : GoodIn wsL_law wsX11_write := goodIn_r _ [962, 432, 963, 182, 295, 184, 157, 158, 433, 434, 435, 5, 436, 161, 185, 186, 187, 1033, 1034, 1035, 1036, 1037, 1038, 1039, 1040, 1041, 1042, 1043, 1044, 1045, 1046, 1047, 1048, 1049, 1050, 1051, 1052, 1053, 1054, 1055, 1056, 1057, 1058, 1059, 1060, 1061, 1062, 1063, 1064, 1065, 1066, 1067, 1068, 1069, 1070, 1071, 1072, 1073, 1074, 1075, 1076, 1077] (by decide +kernel) (by decide +kernel)
set_option maxRecDepth 20000 in
theorem gL_law_X11_write : GoodIn wsL_law (wsV RL 125 RX11 yX11_write wsX11_write) := goodIn_app (goodIn_of _ (by decide +kernel)) ggL_law_X11_write
set_option maxRecDepth 20000 in
theorem ggL_law_X10_tear : GoodIn wsL_law wsX10_tear := goodIn_r _ [967, 40, 194, 44, 195, 1022, 1023, 1024, 1025, 1026, 1027, 1028, 1029, 1030, 1031, 1032, 1104, 1105, 1106, 1107, 1108, 1109, 1110, 1111, 1112, 1113, 1114] (by decide +kernel) (by decide +kernel)
set_option maxRecDepth 20000 in
theorem gL_law_X10_tear : GoodIn wsL_law (wsV RL 126 RX10 yX10_tear wsX10_tear) := goodIn_app (goodIn_of _ (by decide +kernel)) ggL_law_X10_tear
set_option maxRecDepth 20000 in
theorem ggL_law_X11_tear : GoodIn wsL_law wsX11_tear := goodIn_r _ [971, 294, 295, 1033, 1034, 1035, 1036, 1037, 1038, 1039, 1040, 1041, 1042, 1043, 1044, 1045, 1046, 1047, 1048, 1049, 1050, 1051, 1052, 1053, 1054, 1055, 1056, 1057, 1058, 1059, 1060, 1061, 1062, 1063, 1064, 1065, 1066, 1067, 1068, 1069, 1070, 1071, 1072, 1073, 1074, 1075, 1076, 1077] (by decide +kernel) (by decide +kernel)
set_option maxRecDepth 20000 in
theorem gL_law_X11_tear : GoodIn wsL_law (wsV RL 129 RX11 yX11_tear wsX11_tear) := goodIn_app (goodIn_of _ (by decide +kernel)) ggL_law_X11_tear
set_option maxRecDepth 20000 in
theorem ggL_law_X10_judge : GoodIn wsL_law wsX10_judge := goodIn_r _ [975, 44, 19, 976, 977, 978, 43, 979, 958, 980, 105, 106, 1022, 1023, 1024, 1025, 1026, 1027, 1028, 1029, 1030, 1031, 1032, 1112, 1113, 1114, 1084, 1085, 1086, 1087, 1088, 1089, 1090, 1091] (by decide +kernel) (by decide +kernel)
set_option maxRecDepth 20000 in
theorem gL_law_X10_judge : GoodIn wsL_law (wsV RL 130 RX10 yX10_judge wsX10_judge) := goodIn_app (goodIn_of _ (by decide +kernel)) ggL_law_X10_judge
set_option maxRecDepth 20000 in
theorem ggL_law_X11_judge : GoodIn wsL_law wsX11_judge := goodIn_r _ [984, 295, 138, 157, 158, 1033, 1034, 1035, 1036, 1037, 1038, 1039, 1040, 1041, 1042, 1043, 1044, 1045, 1046, 1047, 1048, 1049, 1050, 1051, 1052, 1053, 1054, 1055, 1056, 1057, 1058, 1059, 1060, 1061, 1062, 1063, 1064, 1065, 1066, 1067, 1068, 1069, 1070, 1071, 1072, 1073, 1074, 1075, 1076, 1077] (by decide +kernel) (by decide +kernel)
set_option maxRecDepth 20000 in
theorem gL_law_X11_judge : GoodIn wsL_law (wsV RL 133 RX11 yX11_judge wsX11_judge) := goodIn_app (goodIn_of _ (by decide +kernel)) ggL_law_X11_judge
set_option maxRecDepth 20000 in
theorem ggL_law_X10_seed : GoodIn wsL_law wsX10_seed := goodIn_r _ [988, 166, 28, 989, 1022, 1023, 1024, 1025, 1026, 1027, 1028, 1029, 1030, 1031, 1032, 1095] (by decide +kernel) (by decide +kernel)
set_option maxRecDepth 20000 in
theorem gL_law_X10_seed : GoodIn wsL_law (wsV RL 134 RX10 yX10_seed wsX10_seed) := goodIn_app (goodIn_of _ (by decide +kernel)) ggL_law_X10_seed
set_option maxRecDepth 20000 in
theorem ggL_law_X11_seed : GoodIn wsL_law wsX11_seed := goodIn_r _ [993, 182, 666, 1033, 1034, 1035, 1036, 1037, 1038, 1039, 1040, 1041, 1042, 1043, 1044, 1045, 1046, 1047, 1048, 1049, 1050, 1051, 1052, 1053, 1054, 1055, 1056, 1057, 1058, 1059, 1060, 1061, 1062, 1063, 1064, 1065, 1066, 1067, 1068, 1069, 1070, 1071, 1072, 1073, 1074, 1075, 1076, 1077] (by decide +kernel) (by decide +kernel)
set_option maxRecDepth 20000 in
theorem gL_law_X11_seed : GoodIn wsL_law (wsV RL 137 RX11 yX11_seed wsX11_seed) := goodIn_app (goodIn_of _ (by decide +kernel)) ggL_law_X11_seed
set_option maxRecDepth 20000 in
theorem ggL_law_X10_keep : GoodIn wsL_law wsX10_keep := goodIn_r _ [997, 423, 30, 19, 28, 24, 169, 170, 2, 171, 998, 999, 1000, 32, 1001, 77, 1002, 1003, 1004, 1005, 502, 503, 18, 504, 59, 505, 506, 507, 508, 60, 61, 62, 63, 122, 123, 124, 280, 281, 282, 23, 283, 284, 1022, 1023, 1024, 1025, 1026, 1027, 1028, 1029, 1030, 1031, 1032, 1096, 1097, 1098, 1095, 1084, 1085, 1086, 1087, 1088, 1089, 1090, 1091, 1092, 1093, 1094] (by decide +kernel) (by decide +kernel)
set_option maxRecDepth 20000 in
theorem gL_law_X10_keep : GoodIn wsL_law (wsV RL 138 RX10 yX10_keep wsX10_keep) := goodIn_app (goodIn_of _ (by decide +kernel)) ggL_law_X10_keep
set_option maxRecDepth 20000 in
theorem ggL_law_X11_keep : GoodIn wsL_law wsX11_keep := goodIn_r _ [1009, 432, 159, 138, 666, 160, 296, 185, 186, 5, 187, 1033, 1034, 1035, 1036, 1037, 1038, 1039, 1040, 1041, 1042, 1043, 1044, 1045, 1046, 1047, 1048, 1049, 1050, 1051, 1052, 1053, 1054, 1055, 1056, 1057, 1058, 1059, 1060, 1061, 1062, 1063, 1064, 1065, 1066, 1067, 1068, 1069, 1070, 1071, 1072, 1073, 1074, 1075, 1076, 1077] (by decide +kernel) (by decide +kernel)
set_option maxRecDepth 20000 in
theorem gL_law_X11_keep : GoodIn wsL_law (wsV RL 141 RX11 yX11_keep wsX11_keep) := goodIn_app (goodIn_of _ (by decide +kernel)) ggL_law_X11_keep
set_option maxRecDepth 20000 in
theorem ggL_law_X10_goBack : GoodIn wsL_law wsX10_goBack := goodIn_r _ [1013, 423, 30, 193, 491, 19, 28, 24, 169, 170, 2, 171, 1014, 1015, 1016, 32, 1017, 77, 1003, 1002, 1005, 502, 503, 18, 504, 59, 505, 506, 507, 508, 60, 61, 62, 63, 122, 123, 124, 280, 281, 282, 23, 283, 284, 1022, 1023, 1024, 1025, 1026, 1027, 1028, 1029, 1030, 1031, 1032, 1096, 1097, 1098, 1095, 1084, 1085, 1086, 1087, 1088, 1089, 1090, 1091, 1092, 1093, 1094] (by decide +kernel) (by decide +kernel)
set_option maxRecDepth 20000 in
theorem gL_law_X10_goBack : GoodIn wsL_law (wsV RL 142 RX10 yX10_goBack wsX10_goBack) := goodIn_app (goodIn_of _ (by decide +kernel)) ggL_law_X10_goBack
set_option maxRecDepth 20000 in
theorem ggL_law_X11_goBack : GoodIn wsL_law wsX11_goBack := goodIn_r _ [1021, 432, 160, 543, 138, 159, 666, 296, 185, 186, 5, 187, 1033, 1034, 1035, 1036, 1037, 1038, 1039, 1040, 1041, 1042, 1043, 1044, 1045, 1046, 1047, 1048, 1049, 1050, 1051, 1052, 1053, 1054, 1055, 1056, 1057, 1058, 1059, 1060, 1061, 1062, 1063, 1064, 1065, 1066, 1067, 1068, 1069, 1070, 1071, 1072, 1073, 1074, 1075, 1076, 1077] (by decide +kernel) (by decide +kernel)
set_option maxRecDepth 20000 in
theorem gL_law_X11_goBack : GoodIn wsL_law (wsV RL 145 RX11 yX11_goBack wsX11_goBack) := goodIn_app (goodIn_of _ (by decide +kernel)) ggL_law_X11_goBack
